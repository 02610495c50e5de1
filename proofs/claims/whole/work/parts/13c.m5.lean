set_option maxRecDepth 100000 in
set_option maxHeartbeats 2000000 in
theorem c_M_classLines (l : Launch) (dC : Nat → ClassId) (dI : Nat → Nat → Nat) (cI : ClassId) (cZ : ClassId) (cG : ClassId) (cR : ClassId) (ad : Nat → Nat) (th : Int) (tb : Int → Int) (fi : Int → Int) (se : Int → Int) (lf : Int → Int) (ct : Int → Int) (ln : Int) (tx : Int → Int) (kl : Int → Int) (kp : Int → Int) (fl : Int) (fo : Int → Int) (ol : Int) (ot : Int → Int) (pl : Int → Int) (ky : Int) (nu : Int → Int) (yk : Int) (yn : Int → Int) (lc : Int → Int) (fw : Int → Int) (sd : Int → Int) (lw : Int → Int) (od : Int → Int) (sz : Nat) (hT : TBK tb) (hl9 : 0 ≤ ln ∧ ln ≤ 40) (htx : ∀ j, 0 ≤ j → j < ln → 0 ≤ tx j ∧ tx j < 75) : Met l yM_classLines wsM_classLines ({ frames := 1, cells := 0, slots := 0, locals := 22 }) (va_Pc [.ref (ad 0)] (jPre (dC, dI) (jT cI cZ cG cR) (pM cI cZ cG cR ad th tb fi se lf ct ln tx kl kp fl fo ol ot pl ky nu yk yn lc fw sd lw od) sz)) (va_Qv (fun u : (Int → Int) × (Int → Int) => ∀ j, 0 ≤ j → j < ln → u.1 j = lkf (lzM tb) tx j.toNat ∧ u.2 j = flf (lzM tb) tx j) (fun u => jEnd (dC, dI) (jT cI cZ cG cR) (va_A (pM cI cZ cG cR ad th tb fi se lf ct ln tx kl kp fl fo ol ot pl ky nu yk yn lc fw sd lw od) sz) (pM cI cZ cG cR ad th tb fi se lf ct ln tx kl kp fl fo ol ot pl ky nu yk yn u.1 u.2 sd lw od)) (va_A (pM cI cZ cG cR ad th tb fi se lf ct ln tx kl kp fl fo ol ot pl ky nu yk yn lc fw sd lw od) sz)) 0 0 (va_A (pM cI cZ cG cR ad th tb fi se lf ct ln tx kl kp fl fo ol ot pl ky nu yk yn lc fw sd lw od) sz) := by
  refine jv_mv (cc := cM_classLines) (maxL := 3) (by decide) rfl (Nat.le_of_ble_eq_true rfl) ?_
  intro p0 e0 s0 m0 a0 b0 t0 c0 R0 Q0 A0 ls gX gB hts hown hml hRf hRl hA hK hret hl hP hD hS
  have hown : s0.vm.findClass "TextPipelineModel" = some m0.cls := hown
  have hw0 : ∀ w ∈ WS0, w.before a0 s0 = true := fun w h => hts w (List.mem_cons_of_mem _ h)
  have hl : lv_has ls 3 [(0, .ref (ad 0))] := hl
  have hRf : 1 ≤ R0.frames := hRf
  have hRl : 22 ≤ R0.locals := hRl
  refine lv_iconst (pc := 0) (v := iv 0) gX gB dM_classLines_0 rfl ?_
  refine lv_istore_n (pc := 1) (lv' := [(1, .int (iv 0)), (0, .ref (ad 0))]) gX gB dM_classLines_1 rfl hl (by decide) rfl (fun ls hl => ?_)
  have cut2 : ∀ (n0 : Nat) (i : Int) (lc1 : Int → Int) (fw1 : Int → Int) (ls : Array Slot) (H : Heap) (locs : List Loc), (0 ≤ i ∧ i ≤ ln) → (∀ j, 0 ≤ j → j < i → lc1 j = lkf (lzM tb) tx j.toNat ∧ fw1 j = flf (lzM tb) tx j) → ((ln - i : Int).toNat < n0) → lv_has ls 3 [(0, .ref (ad 0)), (1, .int (iv i))] → va_P (dC, dI) vwCl (pM cI cZ cG cR ad th tb fi se lf ct ln tx kl kp fl fo ol ot pl ky nu yk yn lc1 fw1 sd lw od) H → va_D A0 (pM cI cZ cG cR ad th tb fi se lf ct ln tx kl kp fl fo ol ot pl ky nu yk yn lc1 fw1 sd lw od) → va_S A0 s0.heap H locs → W p0 l e0 R0 s0 m0 a0 b0 t0 c0 H locs 0 0 Q0 (F0 m0 2 ls []) := by
    intro n0
    induction n0 with
    | zero => intro i lc1 fw1 ls H locs hi hq hm hl hP hD hS; exact absurd hm (Nat.not_lt_zero _)
    | succ n0 ih2 =>
      intro i lc1 fw1 ls H locs hi hq hm2 hl hP hD hS
      refine lv_iload_n (pc := 2) gX gB dM_classLines_2 rfl (lv_at hl 1 rfl) ?_
      refine lv_aload_n (pc := 3) gX gB dM_classLines_3 rfl (lv_at hl 0 rfl) ?_
      refine va_get (pc := 4) (D := (dC, dI)) (ci := 5) (v := .int (iv ln)) (C := RM) (T := TM) (N := 24) gX gB hw0 inM hown hK hP 0 rfl rfl 6 (by decide) (hw0 _ q657) (fun _ h9 => h9) rfl dM_classLines_4 ?_
      refine jv_icmp_ge (pc := 7) (tgt := 125) gX gB dM_classLines_7 (by decide) (by omega) (by omega) (fun h1 => ?_) (fun h1 => ?_)
      · skip
        exact hret (lc1, fw1) dM_classLines_125 (by first | (dsimp only; rw [show i = ln by omega] at hq; exact hq) | (rw [show i = ln by omega] at hq; exact hq)) hP hD hS
      have ht := htx i (by omega) (by omega)
      have hz := lzM_rng hT (c := tx i) (by omega)
      have cut37 : ∀ (k : Int) (ls : Array Slot) (H : Heap) (locs : List Loc), (k = lzM tb (tx i)) → lv_has ls 3 [(0, .ref (ad 0)), (1, .int (iv i))] → va_P (dC, dI) vwCl (pM cI cZ cG cR ad th tb fi se lf ct ln tx kl kp fl fo ol ot pl ky nu yk yn lc1 fw1 sd lw od) H → va_D A0 (pM cI cZ cG cR ad th tb fi se lf ct ln tx kl kp fl fo ol ot pl ky nu yk yn lc1 fw1 sd lw od) → va_S A0 s0.heap H locs → W p0 l e0 R0 s0 m0 a0 b0 t0 c0 H locs 0 0 Q0 (F0 m0 37 ls [.int (iv k)]) := by
        intro k ls H locs hk hl hP hD hS
        refine lv_istore_n (pc := 37) (lv' := [(2, .int (iv k)), (0, .ref (ad 0)), (1, .int (iv i))]) gX gB dM_classLines_37 rfl hl (by decide) rfl (fun ls hl => ?_)
        have hq1 : 0 < i → lc1 (i - 1) = lkf (lzM tb) tx (i - 1).toNat := fun z => (hq (i - 1) (by omega) (by omega)).1
        have hl9r : 0 < i → 0 ≤ lkf (lzM tb) tx (i - 1).toNat ∧ lkf (lzM tb) tx (i - 1).toNat ≤ 12 := fun z => lkf_rng (fun c h => lzM_rng hT h) _ (fun j a b => (htx j a (by omega)).1)
        refine lv_aload_n (pc := 38) gX gB dM_classLines_38 rfl (lv_at hl 1 rfl) ?_
        refine va_get (pc := 39) (D := (dC, dI)) (ci := 5) (v := .ref (ad 20)) (C := RM) (T := TM) (N := 24) gX gB hw0 inM hown hK hP 0 rfl rfl 20 (by decide) (hw0 _ q671) (fun _ h9 => h9) rfl dM_classLines_39 ?_
        refine lv_iload_n (pc := 42) gX gB dM_classLines_42 rfl (lv_at hl 2 rfl) ?_
        have cut81 : ∀ (f : Int) (ls : Array Slot) (H : Heap) (locs : List Loc), (f = flf (lzM tb) tx i) → (f = 0 ∨ f = 1) → (f = 1 ↔ (k = 11 ∧ 0 < i ∧ (lc1 (i - 1) = 0 ∨ 3 < lc1 (i - 1)))) → lv_has ls 3 [(0, .ref (ad 0)), (1, .int (iv i)), (2, .int (iv k))] → va_P (dC, dI) vwCl (pM cI cZ cG cR ad th tb fi se lf ct ln tx kl kp fl fo ol ot pl ky nu yk yn lc1 fw1 sd lw od) H → va_D A0 (pM cI cZ cG cR ad th tb fi se lf ct ln tx kl kp fl fo ol ot pl ky nu yk yn lc1 fw1 sd lw od) → va_S A0 s0.heap H locs → W p0 l e0 R0 s0 m0 a0 b0 t0 c0 H locs 0 0 Q0 (F0 m0 81 ls [.int (iv f), .int (iv i), .ref (ad 20)]) := by
          intro f ls H locs hf hf1 hf2 hl hP hD hS
          refine jv_zast (pc := 81) (ws' := (pM cI cZ cG cR ad th tb fi se lf ct ln tx kl kp fl fo ol ot pl ky nu yk yn lc1 (uI fw1 i f) sd lw od)) gX gB hK hP hD hS 15 1 rfl rfl (by decide) (by omega) (by omega) dM_classLines_81 rfl (fun H locs hP hD hS => ?_)
          obtain ⟨fw2, efw2⟩ : ∃ z, z = (uI fw1 i f) := ⟨_, rfl⟩
          rw [← efw2] at hP hD
          have hfi : fw2 i = f := by rw [efw2]; exact uI_s
          refine lv_aload_n (pc := 82) gX gB dM_classLines_82 rfl (lv_at hl 0 rfl) ?_
          refine va_get (pc := 83) (D := (dC, dI)) (ci := 5) (v := .ref (ad 19)) (C := RM) (T := TM) (N := 24) gX gB hw0 inM hown hK hP 0 rfl rfl 19 (by decide) (hw0 _ q670) (fun _ h9 => h9) rfl dM_classLines_83 ?_
          refine lv_iload_n (pc := 86) gX gB dM_classLines_86 rfl (lv_at hl 1 rfl) ?_
          have cut118 : ∀ (x : Int) (ls : Array Slot) (H : Heap) (locs : List Loc), (x = lkf (lzM tb) tx i.toNat) → lv_has ls 3 [(0, .ref (ad 0)), (1, .int (iv i)), (2, .int (iv k))] → va_P (dC, dI) vwCl (pM cI cZ cG cR ad th tb fi se lf ct ln tx kl kp fl fo ol ot pl ky nu yk yn lc1 fw2 sd lw od) H → va_D A0 (pM cI cZ cG cR ad th tb fi se lf ct ln tx kl kp fl fo ol ot pl ky nu yk yn lc1 fw2 sd lw od) → va_S A0 s0.heap H locs → W p0 l e0 R0 s0 m0 a0 b0 t0 c0 H locs 0 0 Q0 (F0 m0 118 ls [.int (iv x), .int (iv i), .ref (ad 19)]) := by
            intro x ls H locs hx hl hP hD hS
            refine jv_iast (pc := 118) (ws' := (pM cI cZ cG cR ad th tb fi se lf ct ln tx kl kp fl fo ol ot pl ky nu yk yn (uI lc1 i x) fw2 sd lw od)) gX gB hK hP hD hS 14 0 rfl rfl (by decide) (by omega) dM_classLines_118 rfl (fun H locs hP hD hS => ?_)
            refine jv_iinc (pc := 119) (k := 1) (x := i) (n := 1) (lv' := [(1, .int (iv (i + 1))), (0, .ref (ad 0)), (2, .int (iv k))]) gX gB dM_classLines_119 hl rfl (by decide) rfl (fun ls hl => ?_)
            refine lv_goto (pc := 122) (tgt := 2) gX gB dM_classLines_122 (by decide) ?_
            exact ih2 (i + 1) (uI lc1 i x) fw2 _ _ _ (by omega) (by intro j a b; by_cases e : j = i; (rw [e, uI_s, hfi]; exact ⟨hx, hf⟩); (rw [uI_n e, efw2, uI_n e]; exact hq j a (by omega))) (by omega) (lv_sub hl [1, 0] rfl) hP hD hS
          refine lv_iload_n (pc := 87) gX gB dM_classLines_87 rfl (lv_at hl 2 rfl) ?_
          refine lv_bipush (pc := 88) (v := iv 11) gX gB dM_classLines_88 (by decide) ?_
          refine jv_icmp_eq (pc := 90) (tgt := 97) gX gB dM_classLines_90 (by decide) (by omega) (by decide) (fun h2 => ?_) (fun h2 => ?_)
          · skip
            refine lv_aload_n (pc := 97) gX gB dM_classLines_97 rfl (lv_at hl 0 rfl) ?_
            refine va_get (pc := 98) (D := (dC, dI)) (ci := 5) (v := .ref (ad 20)) (C := RM) (T := TM) (N := 24) gX gB hw0 inM hown hK hP 0 rfl rfl 20 (by decide) (hw0 _ q671) (fun _ h9 => h9) rfl dM_classLines_98 ?_
            refine lv_iload_n (pc := 101) gX gB dM_classLines_101 rfl (lv_at hl 1 rfl) ?_
            refine jv_zald (pc := 102) gX gB hK hP 15 1 rfl rfl (by decide) (by omega) dM_classLines_102 ?_
            refine jv_if_eq (pc := 103) (tgt := 117) gX gB dM_classLines_103 (by decide) (by omega) (fun h3 => ?_) (fun h3 => ?_)
            · skip
              refine lv_iconst (pc := 117) (v := iv 0) gX gB dM_classLines_117 rfl ?_
              exact cut118 0 _ _ _ (by by_cases h0 : 1 ≤ i; (rw [lkf_s h0]; first | (rw [if_pos (by omega)]; omega) | (rw [if_neg (by omega), if_pos (by omega)]; omega) | (rw [if_neg (by omega), if_neg (by omega)])); (rw [show i = 0 by omega, lkf_0, show tx 0 = tx i by rw [show i = 0 by omega]]; first | (rw [if_pos (by omega)]; omega) | (rw [if_neg (by omega)]) | (exfalso; omega))) hl hP hD hS
            refine lv_aload_n (pc := 106) gX gB dM_classLines_106 rfl (lv_at hl 0 rfl) ?_
            refine va_get (pc := 107) (D := (dC, dI)) (ci := 5) (v := .ref (ad 19)) (C := RM) (T := TM) (N := 24) gX gB hw0 inM hown hK hP 0 rfl rfl 19 (by decide) (hw0 _ q670) (fun _ h9 => h9) rfl dM_classLines_107 ?_
            refine lv_iload_n (pc := 110) gX gB dM_classLines_110 rfl (lv_at hl 1 rfl) ?_
            refine lv_iconst (pc := 111) (v := iv 1) gX gB dM_classLines_111 rfl ?_
            refine jv_isub (pc := 112) (x := i) (y := 1) gX gB dM_classLines_112 ?_
            refine jv_iald (pc := 113) gX gB hK hP 14 0 rfl rfl (by decide) (by omega) dM_classLines_113 ?_
            refine lv_goto (pc := 114) (tgt := 118) gX gB dM_classLines_114 (by decide) ?_
            exact cut118 (lc1 (i - 1)) _ _ _ (by by_cases h0 : 1 ≤ i; (rw [lkf_s h0]; first | (rw [if_pos (by omega)]; omega) | (rw [if_neg (by omega), if_pos (by omega)]; omega) | (rw [if_neg (by omega), if_neg (by omega)])); (rw [show i = 0 by omega, lkf_0, show tx 0 = tx i by rw [show i = 0 by omega]]; first | (rw [if_pos (by omega)]; omega) | (rw [if_neg (by omega)]) | (exfalso; omega))) hl hP hD hS
          refine lv_iload_n (pc := 93) gX gB dM_classLines_93 rfl (lv_at hl 2 rfl) ?_
          refine lv_goto (pc := 94) (tgt := 118) gX gB dM_classLines_94 (by decide) ?_
          exact cut118 k _ _ _ (by by_cases h0 : 1 ≤ i; (rw [lkf_s h0]; first | (rw [if_pos (by omega)]; omega) | (rw [if_neg (by omega), if_pos (by omega)]; omega) | (rw [if_neg (by omega), if_neg (by omega)])); (rw [show i = 0 by omega, lkf_0, show tx 0 = tx i by rw [show i = 0 by omega]]; first | (rw [if_pos (by omega)]; omega) | (rw [if_neg (by omega)]) | (exfalso; omega))) hl hP hD hS
        refine lv_iload_n (pc := 43) gX gB dM_classLines_43 rfl (lv_at hl 0 rfl) ?_
        refine lv_bipush (pc := 44) (v := iv 11) gX gB dM_classLines_44 (by decide) ?_
        refine jv_icmp_ne (pc := 46) (tgt := 80) gX gB dM_classLines_46 (by decide) (by omega) (by decide) (fun h4 => ?_) (fun h4 => ?_)
        · skip
          refine lv_iconst (pc := 80) (v := iv 0) gX gB dM_classLines_80 rfl ?_
          exact cut81 0 _ _ _ (by unfold flf; first | (rw [if_neg (by omega)]) | (rw [if_pos ⟨by omega, by omega, by omega⟩])) (by first | exact Or.inl rfl | exact Or.inr rfl) (by omega) (lv_sub hl [1, 2, 0] rfl) hP hD hS
        refine lv_iload_n (pc := 49) gX gB dM_classLines_49 rfl (lv_at hl 2 rfl) ?_
        refine jv_if_le (pc := 50) (tgt := 80) gX gB dM_classLines_50 (by decide) (by omega) (fun h5 => ?_) (fun h5 => ?_)
        · skip
          refine lv_iconst (pc := 80) (v := iv 0) gX gB dM_classLines_80 rfl ?_
          exact cut81 0 _ _ _ (by unfold flf; first | (rw [if_neg (by omega)]) | (rw [if_pos ⟨by omega, by omega, by omega⟩])) (by first | exact Or.inl rfl | exact Or.inr rfl) (by omega) (lv_sub hl [1, 2, 0] rfl) hP hD hS
        refine lv_aload_n (pc := 53) gX gB dM_classLines_53 rfl (lv_at hl 1 rfl) ?_
        refine va_get (pc := 54) (D := (dC, dI)) (ci := 5) (v := .ref (ad 19)) (C := RM) (T := TM) (N := 24) gX gB hw0 inM hown hK hP 0 rfl rfl 19 (by decide) (hw0 _ q670) (fun _ h9 => h9) rfl dM_classLines_54 ?_
        refine lv_iload_n (pc := 57) gX gB dM_classLines_57 rfl (lv_at hl 2 rfl) ?_
        refine lv_iconst (pc := 58) (v := iv 1) gX gB dM_classLines_58 rfl ?_
        refine jv_isub (pc := 59) (x := i) (y := 1) gX gB dM_classLines_59 ?_
        refine jv_iald (pc := 60) gX gB hK hP 14 0 rfl rfl (by decide) (by omega) dM_classLines_60 ?_
        refine jv_if_eq (pc := 61) (tgt := 76) gX gB dM_classLines_61 (by decide) (by omega) (fun h6 => ?_) (fun h6 => ?_)
        · skip
          refine lv_iconst (pc := 76) (v := iv 1) gX gB dM_classLines_76 rfl ?_
          refine lv_goto (pc := 77) (tgt := 81) gX gB dM_classLines_77 (by decide) ?_
          exact cut81 1 _ _ _ (by unfold flf; first | (rw [if_neg (by omega)]) | (rw [if_pos ⟨by omega, by omega, by omega⟩])) (by first | exact Or.inl rfl | exact Or.inr rfl) (by omega) (lv_sub hl [1, 2, 0] rfl) hP hD hS
        refine lv_aload_n (pc := 64) gX gB dM_classLines_64 rfl (lv_at hl 1 rfl) ?_
        refine va_get (pc := 65) (D := (dC, dI)) (ci := 5) (v := .ref (ad 19)) (C := RM) (T := TM) (N := 24) gX gB hw0 inM hown hK hP 0 rfl rfl 19 (by decide) (hw0 _ q670) (fun _ h9 => h9) rfl dM_classLines_65 ?_
        refine lv_iload_n (pc := 68) gX gB dM_classLines_68 rfl (lv_at hl 2 rfl) ?_
        refine lv_iconst (pc := 69) (v := iv 1) gX gB dM_classLines_69 rfl ?_
        refine jv_isub (pc := 70) (x := i) (y := 1) gX gB dM_classLines_70 ?_
        refine jv_iald (pc := 71) gX gB hK hP 14 0 rfl rfl (by decide) (by omega) dM_classLines_71 ?_
        refine lv_iconst (pc := 72) (v := iv 3) gX gB dM_classLines_72 rfl ?_
        refine jv_icmp_le (pc := 73) (tgt := 80) gX gB dM_classLines_73 (by decide) (by omega) (by decide) (fun h7 => ?_) (fun h7 => ?_)
        · skip
          refine lv_iconst (pc := 80) (v := iv 0) gX gB dM_classLines_80 rfl ?_
          exact cut81 0 _ _ _ (by unfold flf; first | (rw [if_neg (by omega)]) | (rw [if_pos ⟨by omega, by omega, by omega⟩])) (by first | exact Or.inl rfl | exact Or.inr rfl) (by omega) (lv_sub hl [1, 2, 0] rfl) hP hD hS
        refine lv_iconst (pc := 76) (v := iv 1) gX gB dM_classLines_76 rfl ?_
        refine lv_goto (pc := 77) (tgt := 81) gX gB dM_classLines_77 (by decide) ?_
        exact cut81 1 _ _ _ (by unfold flf; first | (rw [if_neg (by omega)]) | (rw [if_pos ⟨by omega, by omega, by omega⟩])) (by first | exact Or.inl rfl | exact Or.inr rfl) (by omega) (lv_sub hl [1, 2, 0] rfl) hP hD hS
      refine lv_aload_n (pc := 10) gX gB dM_classLines_10 rfl (lv_at hl 0 rfl) ?_
      refine va_get (pc := 11) (D := (dC, dI)) (ci := 5) (v := .ref (ad 7)) (C := RM) (T := TM) (N := 24) gX gB hw0 inM hown hK hP 0 rfl rfl 7 (by decide) (hw0 _ q658) (fun _ h9 => h9) rfl dM_classLines_11 ?_
      refine lv_iload_n (pc := 14) gX gB dM_classLines_14 rfl (lv_at hl 1 rfl) ?_
      refine jv_iald (pc := 15) gX gB hK hP 6 0 rfl rfl (by decide) (by omega) dM_classLines_15 ?_
      refine lv_bipush (pc := 16) (v := iv 40) gX gB dM_classLines_16 (by decide) ?_
      refine jv_icmp_ge (pc := 18) (tgt := 35) gX gB dM_classLines_18 (by decide) (by omega) (by decide) (fun h8 => ?_) (fun h8 => ?_)
      · skip
        refine lv_bipush (pc := 35) (v := iv 10) gX gB dM_classLines_35 (by decide) ?_
        exact cut37 10 _ _ _ (by unfold lzM; rw [if_neg (by omega)]) hl hP hD hS
      refine lv_aload_n (pc := 21) gX gB dM_classLines_21 rfl (lv_at hl 0 rfl) ?_
      refine lv_aload_n (pc := 22) gX gB dM_classLines_22 rfl (lv_at hl 0 rfl) ?_
      refine va_get (pc := 23) (D := (dC, dI)) (ci := 5) (v := .ref (ad 7)) (C := RM) (T := TM) (N := 24) gX gB hw0 inM hown hK hP 0 rfl rfl 7 (by decide) (hw0 _ q658) (fun _ h9 => h9) rfl dM_classLines_23 ?_
      refine lv_iload_n (pc := 26) gX gB dM_classLines_26 rfl (lv_at hl 1 rfl) ?_
      refine jv_iald (pc := 27) gX gB hK hP 6 0 rfl rfl (by decide) (by omega) dM_classLines_27 ?_
      refine lv_iconst (pc := 28) (v := iv 2) gX gB dM_classLines_28 rfl ?_
      refine jv_ri (pc := 29) (wr := []) (wn := fun u : Int => (pM cI cZ cG cR ad th tb fi se lf ct ln tx kl kp fl fo ol ot pl ky nu yk yn lc1 fw1 sd lw od)) (va_runV (rest := []) ⟨gX, gB, hml, hown, hw0⟩ (c_M_property l dC dI cI cZ cG cR ad th tb fi se lf ct ln tx kl kp fl fo ol ot pl ky nu yk yn lc1 fw1 sd lw od _ (tx i) 2 (by omega)) (jcV hw0 kM_property q780 rfl rfl ⟨Nat.le_trans (Nat.le_of_ble_eq_true rfl) hRf, Nat.le_trans (Nat.le_of_ble_eq_true rfl) hRl⟩) (jv_preV (ci := 5) (q0 := 0) hK hP hD [0, 1, 2, 3, 4, 5, 6, 7, 8, 9, 10, 11, 12, 13, 14, 15, 16, 17, 18] rfl (by decide) rfl rfl) rfl rfl hl.1 rfl (lv_room (Nat.le_of_ble_eq_true rfl)) dM_classLines_29 ⟨Nat.zero_le _, Nat.zero_le _⟩) hP hD hS hA [0, 1, 2, 3, 4, 5, 6, 7, 8, 9, 10, 11, 12, 13, 14, 15, 16, 17, 18] [] [0, 1, 2, 3, 4, 5, 6, 7, 8, 9, 10, 11, 12, 13, 14, 15, 16, 17, 18] rfl rfl (by decide) (by decide) (by decide) (fun _ => rfl) (fun r0 u H locs hw29 hP hD hS => ?_)
      obtain ⟨r_29, hu⟩ : ∃ z, z = u := ⟨_, rfl⟩; subst hu
      obtain ⟨rfl, hw29⟩ := hw29
      refine lv_goto (pc := 32) (tgt := 37) gX gB dM_classLines_32 (by decide) ?_
      exact cut37 r_29 _ _ _ (by unfold lzM; rw [if_pos (by omega), hw29]; congr 1 <;> omega) hl hP hD hS
  exact cut2 (((ln - 0 : Int).toNat) + 1) 0 lc fw _ _ _ (by omega) (by intro j a b; omega) (Nat.lt_succ_self _) (lv_sub hl [1, 0] rfl) hP hD hS
set_option maxRecDepth 100000 in
set_option maxHeartbeats 1000000 in
theorem c_M_overSpaces (l : Launch) (dC : Nat → ClassId) (dI : Nat → Nat → Nat) (cI : ClassId) (cZ : ClassId) (cG : ClassId) (cR : ClassId) (ad : Nat → Nat) (th : Int) (tb : Int → Int) (fi : Int → Int) (se : Int → Int) (lf : Int → Int) (ct : Int → Int) (ln : Int) (tx : Int → Int) (kl : Int → Int) (kp : Int → Int) (fl : Int) (fo : Int → Int) (ol : Int) (ot : Int → Int) (pl : Int → Int) (ky : Int) (nu : Int → Int) (yk : Int) (yn : Int → Int) (lc : Int → Int) (fw : Int → Int) (sd : Int → Int) (lw : Int → Int) (od : Int → Int) (sz : Nat) (i : Int) (hi : -1 ≤ i ∧ i < 40) (hlc : ∀ j, 0 ≤ j → j ≤ i → 0 ≤ lc j ∧ lc j ≤ 12) : Met l yM_overSpaces wsM_overSpaces ({ frames := 0, cells := 0, slots := 0, locals := 0 }) (va_Pc [.ref (ad 0), .int (iv i)] (jPre (dC, dI) (jT cI cZ cG cR) (pM cI cZ cG cR ad th tb fi se lf ct ln tx kl kp fl fo ol ot pl ky nu yk yn lc fw sd lw od) sz)) (va_Qi (fun (r0 : Int32) (u : Int) => r0 = iv u ∧ (u = osf lc (i + 1).toNat)) (fun u => jEnd (dC, dI) (jT cI cZ cG cR) (va_A (pM cI cZ cG cR ad th tb fi se lf ct ln tx kl kp fl fo ol ot pl ky nu yk yn lc fw sd lw od) sz) (pM cI cZ cG cR ad th tb fi se lf ct ln tx kl kp fl fo ol ot pl ky nu yk yn lc fw sd lw od)) (va_A (pM cI cZ cG cR ad th tb fi se lf ct ln tx kl kp fl fo ol ot pl ky nu yk yn lc fw sd lw od) sz)) 0 0 (va_A (pM cI cZ cG cR ad th tb fi se lf ct ln tx kl kp fl fo ol ot pl ky nu yk yn lc fw sd lw od) sz) := by
  refine jv_mi (cc := cM_overSpaces) (maxL := 3) (by decide) rfl (Nat.le_of_ble_eq_true rfl) ?_
  intro p0 e0 s0 m0 a0 b0 t0 c0 R0 Q0 A0 ls gX gB hts hown hml hRf hRl hA hK hret hl hP hD hS
  have hown : s0.vm.findClass "TextPipelineModel" = some m0.cls := hown
  have hw0 : ∀ w ∈ WS0, w.before a0 s0 = true := fun w h => hts w (List.mem_cons_of_mem _ h)
  have hl : lv_has ls 3 [(0, .ref (ad 0)), (1, .int (iv i))] := hl
  have hRf : 0 ≤ R0.frames := hRf
  have hRl : 0 ≤ R0.locals := hRl
  refine lv_iload_n (pc := 0) gX gB dM_overSpaces_0 rfl (lv_at hl 1 rfl) ?_
  refine lv_istore_n (pc := 1) (lv' := [(2, .int (iv i)), (0, .ref (ad 0)), (1, .int (iv i))]) gX gB dM_overSpaces_1 rfl hl (by decide) rfl (fun ls hl => ?_)
  have cut2 : ∀ (n0 : Nat) (s : Int) (ls : Array Slot) (H : Heap) (locs : List Loc), (-1 ≤ s ∧ s ≤ i) → (osf lc (s + 1).toNat = osf lc (i + 1).toNat) → ((s + 1 : Int).toNat < n0) → lv_has ls 3 [(0, .ref (ad 0)), (1, .int (iv i)), (2, .int (iv s))] → va_P (dC, dI) vwCl (pM cI cZ cG cR ad th tb fi se lf ct ln tx kl kp fl fo ol ot pl ky nu yk yn lc fw sd lw od) H → va_D A0 (pM cI cZ cG cR ad th tb fi se lf ct ln tx kl kp fl fo ol ot pl ky nu yk yn lc fw sd lw od) → va_S A0 s0.heap H locs → W p0 l e0 R0 s0 m0 a0 b0 t0 c0 H locs 0 0 Q0 (F0 m0 2 ls []) := by
    intro n0
    induction n0 with
    | zero => intro s ls H locs hs hq hm hl hP hD hS; exact absurd hm (Nat.not_lt_zero _)
    | succ n0 ih2 =>
      intro s ls H locs hs hq hm2 hl hP hD hS
      refine lv_iload_n (pc := 2) gX gB dM_overSpaces_2 rfl (lv_at hl 2 rfl) ?_
      refine jv_if_lt (pc := 3) (tgt := 22) gX gB dM_overSpaces_3 (by decide) (by omega) (fun h1 => ?_) (fun h1 => ?_)
      · skip
        refine lv_iload_n (pc := 22) gX gB dM_overSpaces_22 rfl (lv_at hl 2 rfl) ?_
        refine jv_if_ge (pc := 23) (tgt := 30) gX gB dM_overSpaces_23 (by decide) (by omega) (fun h2 => ?_) (fun h2 => ?_)
        · skip
          refine lv_aload_n (pc := 30) gX gB dM_overSpaces_30 rfl (lv_at hl 0 rfl) ?_
          refine va_get (pc := 31) (D := (dC, dI)) (ci := 5) (v := .ref (ad 19)) (C := RM) (T := TM) (N := 24) gX gB hw0 inM hown hK hP 0 rfl rfl 19 (by decide) (hw0 _ q670) (fun _ h9 => h9) rfl dM_overSpaces_31 ?_
          refine lv_iload_n (pc := 34) gX gB dM_overSpaces_34 rfl (lv_at hl 2 rfl) ?_
          refine jv_iald (pc := 35) gX gB hK hP 14 0 rfl rfl (by decide) (by omega) dM_overSpaces_35 ?_
          exact hret _ (lc s) dM_overSpaces_36 ⟨rfl, by first | (rw [← hq, show s = -1 by omega]; rfl) | (rw [← hq, ho, if_neg (by omega)]) | (exfalso; omega)⟩ hP hD hS
        refine lv_iconst (pc := 26) (v := iv (-1)) gX gB dM_overSpaces_26 rfl ?_
        refine lv_goto (pc := 27) (tgt := 36) gX gB dM_overSpaces_27 (by decide) ?_
        exact hret _ ((-1)) dM_overSpaces_36 ⟨rfl, by first | (rw [← hq, show s = -1 by omega]; rfl) | (rw [← hq, ho, if_neg (by omega)]) | (exfalso; omega)⟩ hP hD hS
      have hls := hlc s (by omega) (by omega)
      have ho := osf_s (g := lc) (s := s) (by omega)
      refine lv_aload_n (pc := 6) gX gB dM_overSpaces_6 rfl (lv_at hl 0 rfl) ?_
      refine va_get (pc := 7) (D := (dC, dI)) (ci := 5) (v := .ref (ad 19)) (C := RM) (T := TM) (N := 24) gX gB hw0 inM hown hK hP 0 rfl rfl 19 (by decide) (hw0 _ q670) (fun _ h9 => h9) rfl dM_overSpaces_7 ?_
      refine lv_iload_n (pc := 10) gX gB dM_overSpaces_10 rfl (lv_at hl 2 rfl) ?_
      refine jv_iald (pc := 11) gX gB hK hP 14 0 rfl rfl (by decide) (by omega) dM_overSpaces_11 ?_
      refine lv_iconst (pc := 12) (v := iv 2) gX gB dM_overSpaces_12 rfl ?_
      refine jv_icmp_ne (pc := 13) (tgt := 22) gX gB dM_overSpaces_13 (by decide) (by omega) (by decide) (fun h3 => ?_) (fun h3 => ?_)
      · skip
        refine lv_iload_n (pc := 22) gX gB dM_overSpaces_22 rfl (lv_at hl 2 rfl) ?_
        refine jv_if_ge (pc := 23) (tgt := 30) gX gB dM_overSpaces_23 (by decide) (by omega) (fun h4 => ?_) (fun h4 => ?_)
        · skip
          refine lv_aload_n (pc := 30) gX gB dM_overSpaces_30 rfl (lv_at hl 0 rfl) ?_
          refine va_get (pc := 31) (D := (dC, dI)) (ci := 5) (v := .ref (ad 19)) (C := RM) (T := TM) (N := 24) gX gB hw0 inM hown hK hP 0 rfl rfl 19 (by decide) (hw0 _ q670) (fun _ h9 => h9) rfl dM_overSpaces_31 ?_
          refine lv_iload_n (pc := 34) gX gB dM_overSpaces_34 rfl (lv_at hl 2 rfl) ?_
          refine jv_iald (pc := 35) gX gB hK hP 14 0 rfl rfl (by decide) (by omega) dM_overSpaces_35 ?_
          exact hret _ (lc s) dM_overSpaces_36 ⟨rfl, by first | (rw [← hq, show s = -1 by omega]; rfl) | (rw [← hq, ho, if_neg (by omega)]) | (exfalso; omega)⟩ hP hD hS
        refine lv_iconst (pc := 26) (v := iv (-1)) gX gB dM_overSpaces_26 rfl ?_
        refine lv_goto (pc := 27) (tgt := 36) gX gB dM_overSpaces_27 (by decide) ?_
        exact hret _ ((-1)) dM_overSpaces_36 ⟨rfl, by first | (rw [← hq, show s = -1 by omega]; rfl) | (rw [← hq, ho, if_neg (by omega)]) | (exfalso; omega)⟩ hP hD hS
      refine jv_idec (pc := 16) (k := 2) (x := s) (n := (-1)) (d := 1) (lv' := [(2, .int (iv (s - 1))), (0, .ref (ad 0)), (1, .int (iv i))]) gX gB dM_overSpaces_16 (by decide) hl rfl (by decide) rfl (fun ls hl => ?_)
      refine lv_goto (pc := 19) (tgt := 2) gX gB dM_overSpaces_19 (by decide) ?_
      exact ih2 (s - 1) _ _ _ (by omega) (by rw [← hq, ho, if_pos (by omega), show s - 1 + 1 = s by omega]) (by omega) (lv_sub hl [1, 2, 0] rfl) hP hD hS
  exact cut2 (((i + 1 : Int).toNat) + 1) i _ _ _ (by omega) (by rfl) (Nat.lt_succ_self _) (lv_sub hl [1, 2, 0] rfl) hP hD hS
set_option maxRecDepth 100000 in
set_option maxHeartbeats 1000000 in
theorem c_M_may (l : Launch) (dC : Nat → ClassId) (dI : Nat → Nat → Nat) (cI : ClassId) (cZ : ClassId) (cG : ClassId) (cR : ClassId) (ad : Nat → Nat) (th : Int) (tb : Int → Int) (fi : Int → Int) (se : Int → Int) (lf : Int → Int) (ct : Int → Int) (ln : Int) (tx : Int → Int) (kl : Int → Int) (kp : Int → Int) (fl : Int) (fo : Int → Int) (ol : Int) (ot : Int → Int) (pl : Int → Int) (ky : Int) (nu : Int → Int) (yk : Int) (yn : Int → Int) (lc : Int → Int) (fw : Int → Int) (sd : Int → Int) (lw : Int → Int) (od : Int → Int) (sz : Nat) (x : Int) (y : Int) (hx9 : 0 ≤ x ∧ x ≤ 12) (hy9 : 0 ≤ y ∧ y ≤ 12) : Met l yM_may wsM_may ({ frames := 0, cells := 0, slots := 0, locals := 0 }) (va_Pc [.ref (ad 0), .int (iv x), .int (iv y)] (jPre (dC, dI) (jT cI cZ cG cR) (pM cI cZ cG cR ad th tb fi se lf ct ln tx kl kp fl fo ol ot pl ky nu yk yn lc fw sd lw od) sz)) (va_Qi (fun (r0 : Int32) (u : Int) => r0 = iv u ∧ ((u = 0 ∨ u = 1) ∧ u = mayv x y)) (fun u => jEnd (dC, dI) (jT cI cZ cG cR) (va_A (pM cI cZ cG cR ad th tb fi se lf ct ln tx kl kp fl fo ol ot pl ky nu yk yn lc fw sd lw od) sz) (pM cI cZ cG cR ad th tb fi se lf ct ln tx kl kp fl fo ol ot pl ky nu yk yn lc fw sd lw od)) (va_A (pM cI cZ cG cR ad th tb fi se lf ct ln tx kl kp fl fo ol ot pl ky nu yk yn lc fw sd lw od) sz)) 0 0 (va_A (pM cI cZ cG cR ad th tb fi se lf ct ln tx kl kp fl fo ol ot pl ky nu yk yn lc fw sd lw od) sz) := by
  refine jv_mz (cc := cM_may) (maxL := 6) (by decide) rfl (Nat.le_of_ble_eq_true rfl) ?_
  intro p0 e0 s0 m0 a0 b0 t0 c0 R0 Q0 A0 ls gX gB hts hown hml hRf hRl hA hK hret hl hP hD hS
  have hown : s0.vm.findClass "TextPipelineModel" = some m0.cls := hown
  have hw0 : ∀ w ∈ WS0, w.before a0 s0 = true := fun w h => hts w (List.mem_cons_of_mem _ h)
  have hl : lv_has ls 6 [(0, .ref (ad 0)), (1, .int (iv x)), (2, .int (iv y))] := hl
  have hRf : 0 ≤ R0.frames := hRf
  have hRl : 0 ≤ R0.locals := hRl
  have rgx : -2147483648 ≤ x ∧ x < 2147483648 := by omega
  have rgy : -2147483648 ≤ y ∧ y < 2147483648 := by omega
  have cut15 : ∀ (le : Int) (ls : Array Slot) (H : Heap) (locs : List Loc), ((le = 1 ∧ (x = 0 ∨ x = 9)) ∨ (le = 0 ∧ ¬ (x = 0 ∨ x = 9))) → lv_has ls 6 [(0, .ref (ad 0)), (1, .int (iv x)), (2, .int (iv y))] → va_P (dC, dI) vwCl (pM cI cZ cG cR ad th tb fi se lf ct ln tx kl kp fl fo ol ot pl ky nu yk yn lc fw sd lw od) H → va_D A0 (pM cI cZ cG cR ad th tb fi se lf ct ln tx kl kp fl fo ol ot pl ky nu yk yn lc fw sd lw od) → va_S A0 s0.heap H locs → W p0 l e0 R0 s0 m0 a0 b0 t0 c0 H locs 0 0 Q0 (F0 m0 15 ls [.int (iv le)]) := by
    intro le ls H locs hle hl hP hD hS
    have rgl : -2147483648 ≤ le ∧ le < 2147483648 := by omega
    refine lv_istore_n (pc := 15) (lv' := [(3, .int (iv le)), (0, .ref (ad 0)), (1, .int (iv x)), (2, .int (iv y))]) gX gB dM_may_15 rfl hl (by decide) rfl (fun ls hl => ?_)
    have cut31 : ∀ (fo9 : Int) (ls : Array Slot) (H : Heap) (locs : List Loc), ((fo9 = 1 ∧ (y = 0 ∨ y = 9)) ∨ (fo9 = 0 ∧ ¬ (y = 0 ∨ y = 9))) → lv_has ls 6 [(0, .ref (ad 0)), (1, .int (iv x)), (2, .int (iv y)), (3, .int (iv le))] → va_P (dC, dI) vwCl (pM cI cZ cG cR ad th tb fi se lf ct ln tx kl kp fl fo ol ot pl ky nu yk yn lc fw sd lw od) H → va_D A0 (pM cI cZ cG cR ad th tb fi se lf ct ln tx kl kp fl fo ol ot pl ky nu yk yn lc fw sd lw od) → va_S A0 s0.heap H locs → W p0 l e0 R0 s0 m0 a0 b0 t0 c0 H locs 0 0 Q0 (F0 m0 31 ls [.int (iv fo9)]) := by
      intro fo9 ls H locs hfo9 hl hP hD hS
      have rgf : -2147483648 ≤ fo9 ∧ fo9 < 2147483648 := by clear hle; omega
      refine lv_istore (pc := 31) (lv' := [(4, .int (iv fo9)), (0, .ref (ad 0)), (1, .int (iv x)), (2, .int (iv y)), (3, .int (iv le))]) gX gB dM_may_31 hl (by decide) rfl (fun ls hl => ?_)
      have cut40 : ∀ (ls : Array Slot) (H : Heap) (locs : List Loc), (x ≠ 2) → lv_has ls 6 [(0, .ref (ad 0)), (1, .int (iv x)), (2, .int (iv y)), (3, .int (iv le)), (4, .int (iv fo9))] → va_P (dC, dI) vwCl (pM cI cZ cG cR ad th tb fi se lf ct ln tx kl kp fl fo ol ot pl ky nu yk yn lc fw sd lw od) H → va_D A0 (pM cI cZ cG cR ad th tb fi se lf ct ln tx kl kp fl fo ol ot pl ky nu yk yn lc fw sd lw od) → va_S A0 s0.heap H locs → W p0 l e0 R0 s0 m0 a0 b0 t0 c0 H locs 0 0 Q0 (F0 m0 40 ls []) := by
        intro  ls H locs h40 hl hP hD hS
        have cut60 : ∀ (ls : Array Slot) (H : Heap) (locs : List Loc), (¬ (x = 7 ∨ y = 7 ∨ y = 8)) → lv_has ls 6 [(0, .ref (ad 0)), (1, .int (iv x)), (2, .int (iv y)), (3, .int (iv le)), (4, .int (iv fo9))] → va_P (dC, dI) vwCl (pM cI cZ cG cR ad th tb fi se lf ct ln tx kl kp fl fo ol ot pl ky nu yk yn lc fw sd lw od) H → va_D A0 (pM cI cZ cG cR ad th tb fi se lf ct ln tx kl kp fl fo ol ot pl ky nu yk yn lc fw sd lw od) → va_S A0 s0.heap H locs → W p0 l e0 R0 s0 m0 a0 b0 t0 c0 H locs 0 0 Q0 (F0 m0 60 ls []) := by
          intro  ls H locs h60 hl hP hD hS
          have cut117 : ∀ (ls : Array Slot) (H : Heap) (locs : List Loc), (mayv x y = 0) → lv_has ls 6 [(0, .ref (ad 0)), (1, .int (iv x)), (2, .int (iv y))] → va_P (dC, dI) vwCl (pM cI cZ cG cR ad th tb fi se lf ct ln tx kl kp fl fo ol ot pl ky nu yk yn lc fw sd lw od) H → va_D A0 (pM cI cZ cG cR ad th tb fi se lf ct ln tx kl kp fl fo ol ot pl ky nu yk yn lc fw sd lw od) → va_S A0 s0.heap H locs → W p0 l e0 R0 s0 m0 a0 b0 t0 c0 H locs 0 0 Q0 (F0 m0 117 ls []) := by
            intro  ls H locs h117 hl hP hD hS
            refine lv_iconst (pc := 117) (v := iv 1) gX gB dM_may_117 rfl ?_
            refine lv_goto (pc := 118) (tgt := 122) gX gB dM_may_118 (by decide) ?_
            refine lv_istore (pc := 122) (lv' := [(5, .int (iv 1)), (0, .ref (ad 0)), (1, .int (iv x)), (2, .int (iv y))]) gX gB dM_may_122 hl (by decide) rfl (fun ls hl => ?_)
            refine lv_iload (pc := 124) gX gB dM_may_124 (lv_at hl 0 rfl) ?_
            refine jv_if_ne (pc := 126) (tgt := 133) gX gB dM_may_126 (by decide) (by decide) (fun h1 => ?_) (fun h1 => ?_)
            rotate_left
            · exact absurd h1 (by decide)
            refine lv_iconst (pc := 133) (v := iv 0) gX gB dM_may_133 rfl ?_
            exact hret _ (0) dM_may_134 (Or.inl rfl) ⟨rfl, by first | exact ⟨Or.inl rfl, h117.symm⟩ | exact ⟨Or.inr rfl, h121.symm⟩⟩ hP hD hS
          have cut78 : ∀ (ls : Array Slot) (H : Heap) (locs : List Loc), (¬ ((x = 8 ∨ x = 12) ∧ y = 9)) → lv_has ls 6 [(0, .ref (ad 0)), (1, .int (iv x)), (2, .int (iv y)), (3, .int (iv le)), (4, .int (iv fo9))] → va_P (dC, dI) vwCl (pM cI cZ cG cR ad th tb fi se lf ct ln tx kl kp fl fo ol ot pl ky nu yk yn lc fw sd lw od) H → va_D A0 (pM cI cZ cG cR ad th tb fi se lf ct ln tx kl kp fl fo ol ot pl ky nu yk yn lc fw sd lw od) → va_S A0 s0.heap H locs → W p0 l e0 R0 s0 m0 a0 b0 t0 c0 H locs 0 0 Q0 (F0 m0 78 ls []) := by
            intro  ls H locs h78 hl hP hD hS
            have cut87 : ∀ (ls : Array Slot) (H : Heap) (locs : List Loc), (¬ ((x = 0 ∨ x = 9) ∧ (y = 0 ∨ y = 9))) → lv_has ls 6 [(0, .ref (ad 0)), (1, .int (iv x)), (2, .int (iv y)), (3, .int (iv le)), (4, .int (iv fo9))] → va_P (dC, dI) vwCl (pM cI cZ cG cR ad th tb fi se lf ct ln tx kl kp fl fo ol ot pl ky nu yk yn lc fw sd lw od) H → va_D A0 (pM cI cZ cG cR ad th tb fi se lf ct ln tx kl kp fl fo ol ot pl ky nu yk yn lc fw sd lw od) → va_S A0 s0.heap H locs → W p0 l e0 R0 s0 m0 a0 b0 t0 c0 H locs 0 0 Q0 (F0 m0 87 ls []) := by
              intro  ls H locs h87 hl hP hD hS
              have cut97 : ∀ (ls : Array Slot) (H : Heap) (locs : List Loc), (¬ (x = 12 ∧ y = 0)) → lv_has ls 6 [(0, .ref (ad 0)), (1, .int (iv x)), (2, .int (iv y)), (3, .int (iv le)), (4, .int (iv fo9))] → va_P (dC, dI) vwCl (pM cI cZ cG cR ad th tb fi se lf ct ln tx kl kp fl fo ol ot pl ky nu yk yn lc fw sd lw od) H → va_D A0 (pM cI cZ cG cR ad th tb fi se lf ct ln tx kl kp fl fo ol ot pl ky nu yk yn lc fw sd lw od) → va_S A0 s0.heap H locs → W p0 l e0 R0 s0 m0 a0 b0 t0 c0 H locs 0 0 Q0 (F0 m0 97 ls []) := by
                intro  ls H locs h97 hl hP hD hS
                have cut106 : ∀ (ls : Array Slot) (H : Heap) (locs : List Loc), (¬ ((x = 0 ∨ x = 9) ∧ y = 5)) → lv_has ls 6 [(0, .ref (ad 0)), (1, .int (iv x)), (2, .int (iv y)), (3, .int (iv le)), (4, .int (iv fo9))] → va_P (dC, dI) vwCl (pM cI cZ cG cR ad th tb fi se lf ct ln tx kl kp fl fo ol ot pl ky nu yk yn lc fw sd lw od) H → va_D A0 (pM cI cZ cG cR ad th tb fi se lf ct ln tx kl kp fl fo ol ot pl ky nu yk yn lc fw sd lw od) → va_S A0 s0.heap H locs → W p0 l e0 R0 s0 m0 a0 b0 t0 c0 H locs 0 0 Q0 (F0 m0 106 ls []) := by
                  intro  ls H locs h106 hl hP hD hS
                  have cut121 : ∀ (ls : Array Slot) (H : Heap) (locs : List Loc), (mayv x y = 1) → lv_has ls 6 [(0, .ref (ad 0)), (1, .int (iv x)), (2, .int (iv y))] → va_P (dC, dI) vwCl (pM cI cZ cG cR ad th tb fi se lf ct ln tx kl kp fl fo ol ot pl ky nu yk yn lc fw sd lw od) H → va_D A0 (pM cI cZ cG cR ad th tb fi se lf ct ln tx kl kp fl fo ol ot pl ky nu yk yn lc fw sd lw od) → va_S A0 s0.heap H locs → W p0 l e0 R0 s0 m0 a0 b0 t0 c0 H locs 0 0 Q0 (F0 m0 121 ls []) := by
                    intro  ls H locs h121 hl hP hD hS
                    refine lv_iconst (pc := 121) (v := iv 0) gX gB dM_may_121 rfl ?_
                    refine lv_istore (pc := 122) (lv' := [(5, .int (iv 0)), (0, .ref (ad 0)), (1, .int (iv x)), (2, .int (iv y))]) gX gB dM_may_122 hl (by decide) rfl (fun ls hl => ?_)
                    refine lv_iload (pc := 124) gX gB dM_may_124 (lv_at hl 0 rfl) ?_
                    refine jv_if_ne (pc := 126) (tgt := 133) gX gB dM_may_126 (by decide) (by decide) (fun h2 => ?_) (fun h2 => ?_)
                    · exact absurd h2 (by decide)
                    refine lv_iconst (pc := 129) (v := iv 1) gX gB dM_may_129 rfl ?_
                    refine lv_goto (pc := 130) (tgt := 134) gX gB dM_may_130 (by decide) ?_
                    exact hret _ (1) dM_may_134 (Or.inr rfl) ⟨rfl, by first | exact ⟨Or.inl rfl, h117.symm⟩ | exact ⟨Or.inr rfl, h121.symm⟩⟩ hP hD hS
                  refine lv_iload_n (pc := 106) gX gB dM_may_106 rfl (lv_at hl 1 rfl) ?_
                  refine lv_bipush (pc := 107) (v := iv 6) gX gB dM_may_107 (by decide) ?_
                  refine jv_icmp_ne (pc := 109) (tgt := 121) gX gB dM_may_109 (by decide) rgx (by decide) (fun h3 => ?_) (fun h3 => ?_)
                  · skip
                    exact cut121  _ _ _ (by unfold mayv; exact if_pos (Or.inr ⟨h60, fun h => h.elim h78 (fun h => h.elim h87 (fun h => h.elim h97 (fun h => h.elim h106 (fun h => absurd h.1 (by assumption)))))⟩)) (lv_sub hl [0, 1, 2] rfl) hP hD hS
                  refine lv_iload (pc := 112) gX gB dM_may_112 (lv_at hl 4 rfl) ?_
                  refine jv_if_eq (pc := 114) (tgt := 121) gX gB dM_may_114 (by decide) rgf (fun h4 => ?_) (fun h4 => ?_)
                  · skip
                    exact cut121  _ _ _ (by unfold mayv; exact if_pos (Or.inr ⟨h60, fun h => h.elim h78 (fun h => h.elim h87 (fun h => h.elim h97 (fun h => h.elim h106 (fun h => by rcases hfo9 with z | z; omega; exact z.2 h.2))))⟩)) (lv_sub hl [0, 1, 2] rfl) hP hD hS
                  exact cut117  _ _ _ (by unfold mayv; exact if_neg (fun h => h.elim h40 (fun h => h.2 (Or.inr (Or.inr (Or.inr (Or.inr ⟨by assumption, by rcases hfo9 with z | z; exact z.2; exact absurd z.1 (by assumption)⟩))))))) (lv_sub hl [0, 1, 2] rfl) hP hD hS
                refine lv_iload_n (pc := 97) gX gB dM_may_97 rfl (lv_at hl 3 rfl) ?_
                refine jv_if_eq (pc := 98) (tgt := 106) gX gB dM_may_98 (by decide) rgl (fun h5 => ?_) (fun h5 => ?_)
                · skip
                  exact cut106  _ _ _ (by exact fun h => by rcases hle with z | z; omega; exact z.2 h.1) hl hP hD hS
                refine lv_iload_n (pc := 101) gX gB dM_may_101 rfl (lv_at hl 2 rfl) ?_
                refine lv_iconst (pc := 102) (v := iv 5) gX gB dM_may_102 rfl ?_
                refine jv_icmp_eq (pc := 103) (tgt := 117) gX gB dM_may_103 (by decide) rgy (by decide) (fun h6 => ?_) (fun h6 => ?_)
                · skip
                  exact cut117  _ _ _ (by unfold mayv; exact if_neg (fun h => h.elim h40 (fun h => h.2 (Or.inr (Or.inr (Or.inr (Or.inl ⟨by rcases hle with z | z; exact z.2; exact absurd z.1 (by assumption), by assumption⟩))))))) (lv_sub hl [0, 1, 2] rfl) hP hD hS
                exact cut106  _ _ _ (by exact fun h => absurd h.2 (by assumption)) hl hP hD hS
              refine lv_iload_n (pc := 87) gX gB dM_may_87 rfl (lv_at hl 1 rfl) ?_
              refine lv_bipush (pc := 88) (v := iv 12) gX gB dM_may_88 (by decide) ?_
              refine jv_icmp_ne (pc := 90) (tgt := 97) gX gB dM_may_90 (by decide) rgx (by decide) (fun h7 => ?_) (fun h7 => ?_)
              · skip
                exact cut97  _ _ _ (by exact fun h => absurd h.1 (by assumption)) hl hP hD hS
              refine lv_iload_n (pc := 93) gX gB dM_may_93 rfl (lv_at hl 2 rfl) ?_
              refine jv_if_eq (pc := 94) (tgt := 117) gX gB dM_may_94 (by decide) rgy (fun h8 => ?_) (fun h8 => ?_)
              · skip
                exact cut117  _ _ _ (by unfold mayv; exact if_neg (fun h => h.elim h40 (fun h => h.2 (Or.inr (Or.inr (Or.inl ⟨by assumption, by assumption⟩)))))) (lv_sub hl [0, 1, 2] rfl) hP hD hS
              exact cut97  _ _ _ (by exact fun h => absurd h.2 (by assumption)) hl hP hD hS
            refine lv_iload_n (pc := 78) gX gB dM_may_78 rfl (lv_at hl 3 rfl) ?_
            refine jv_if_eq (pc := 79) (tgt := 87) gX gB dM_may_79 (by decide) rgl (fun h9 => ?_) (fun h9 => ?_)
            · skip
              exact cut87  _ _ _ (by exact fun h => by rcases hle with z | z; omega; exact z.2 h.1) hl hP hD hS
            refine lv_iload (pc := 82) gX gB dM_may_82 (lv_at hl 4 rfl) ?_
            refine jv_if_ne (pc := 84) (tgt := 117) gX gB dM_may_84 (by decide) rgf (fun h10 => ?_) (fun h10 => ?_)
            · skip
              exact cut117  _ _ _ (by unfold mayv; exact if_neg (fun h => h.elim h40 (fun h => h.2 (Or.inr (Or.inl ⟨by rcases hle with z | z; exact z.2; exact absurd z.1 (by assumption), by rcases hfo9 with z | z; exact z.2; exact absurd z.1 (by assumption)⟩))))) (lv_sub hl [0, 1, 2] rfl) hP hD hS
            exact cut87  _ _ _ (by exact fun h => by rcases hfo9 with z | z; omega; exact z.2 h.2) hl hP hD hS
          have cut72 : ∀ (ls : Array Slot) (H : Heap) (locs : List Loc), (x = 8 ∨ x = 12) → lv_has ls 6 [(0, .ref (ad 0)), (1, .int (iv x)), (2, .int (iv y)), (3, .int (iv le)), (4, .int (iv fo9))] → va_P (dC, dI) vwCl (pM cI cZ cG cR ad th tb fi se lf ct ln tx kl kp fl fo ol ot pl ky nu yk yn lc fw sd lw od) H → va_D A0 (pM cI cZ cG cR ad th tb fi se lf ct ln tx kl kp fl fo ol ot pl ky nu yk yn lc fw sd lw od) → va_S A0 s0.heap H locs → W p0 l e0 R0 s0 m0 a0 b0 t0 c0 H locs 0 0 Q0 (F0 m0 72 ls []) := by
            intro  ls H locs h72 hl hP hD hS
            refine lv_iload_n (pc := 72) gX gB dM_may_72 rfl (lv_at hl 2 rfl) ?_
            refine lv_bipush (pc := 73) (v := iv 9) gX gB dM_may_73 (by decide) ?_
            refine jv_icmp_eq (pc := 75) (tgt := 117) gX gB dM_may_75 (by decide) rgy (by decide) (fun h11 => ?_) (fun h11 => ?_)
            · skip
              exact cut117  _ _ _ (by unfold mayv; exact if_neg (fun h => h.elim h40 (fun h => h.2 (Or.inl ⟨h72, by assumption⟩)))) (lv_sub hl [0, 1, 2] rfl) hP hD hS
            exact cut78  _ _ _ (by exact fun h => absurd h.2 (by assumption)) hl hP hD hS
          refine lv_iload_n (pc := 60) gX gB dM_may_60 rfl (lv_at hl 1 rfl) ?_
          refine lv_bipush (pc := 61) (v := iv 8) gX gB dM_may_61 (by decide) ?_
          refine jv_icmp_eq (pc := 63) (tgt := 72) gX gB dM_may_63 (by decide) rgx (by decide) (fun h12 => ?_) (fun h12 => ?_)
          · skip
            exact cut72  _ _ _ (by exact Or.inl (by assumption)) hl hP hD hS
          refine lv_iload_n (pc := 66) gX gB dM_may_66 rfl (lv_at hl 1 rfl) ?_
          refine lv_bipush (pc := 67) (v := iv 12) gX gB dM_may_67 (by decide) ?_
          refine jv_icmp_ne (pc := 69) (tgt := 78) gX gB dM_may_69 (by decide) rgx (by decide) (fun h13 => ?_) (fun h13 => ?_)
          · skip
            exact cut78  _ _ _ (by exact fun h => h.1.elim (fun z => absurd z (by assumption)) (fun z => absurd z (by assumption))) hl hP hD hS
          exact cut72  _ _ _ (by exact Or.inr (by assumption)) hl hP hD hS
        have cut58 : ∀ (ls : Array Slot) (H : Heap) (locs : List Loc), (x = 7 ∨ y = 7 ∨ y = 8) → lv_has ls 6 [(0, .ref (ad 0)), (1, .int (iv x)), (2, .int (iv y)), (3, .int (iv le)), (4, .int (iv fo9))] → va_P (dC, dI) vwCl (pM cI cZ cG cR ad th tb fi se lf ct ln tx kl kp fl fo ol ot pl ky nu yk yn lc fw sd lw od) H → va_D A0 (pM cI cZ cG cR ad th tb fi se lf ct ln tx kl kp fl fo ol ot pl ky nu yk yn lc fw sd lw od) → va_S A0 s0.heap H locs → W p0 l e0 R0 s0 m0 a0 b0 t0 c0 H locs 0 0 Q0 (F0 m0 58 ls []) := by
          intro  ls H locs h58 hl hP hD hS
          refine lv_iconst (pc := 58) (v := iv 0) gX gB dM_may_58 rfl ?_
          exact hret _ (0) dM_may_59 (Or.inl rfl) ⟨rfl, by refine ⟨Or.inl rfl, ?_⟩; unfold mayv; exact (if_neg (fun h => h.elim h40 (fun h => h.1 h58))).symm⟩ hP hD hS
        refine lv_iload_n (pc := 40) gX gB dM_may_40 rfl (lv_at hl 1 rfl) ?_
        refine lv_bipush (pc := 41) (v := iv 7) gX gB dM_may_41 (by decide) ?_
        refine jv_icmp_eq (pc := 43) (tgt := 58) gX gB dM_may_43 (by decide) rgx (by decide) (fun h14 => ?_) (fun h14 => ?_)
        · skip
          exact cut58  _ _ _ (by exact Or.inl (by assumption)) hl hP hD hS
        refine lv_iload_n (pc := 46) gX gB dM_may_46 rfl (lv_at hl 2 rfl) ?_
        refine lv_bipush (pc := 47) (v := iv 7) gX gB dM_may_47 (by decide) ?_
        refine jv_icmp_eq (pc := 49) (tgt := 58) gX gB dM_may_49 (by decide) rgy (by decide) (fun h15 => ?_) (fun h15 => ?_)
        · skip
          exact cut58  _ _ _ (by exact Or.inr (Or.inl (by assumption))) hl hP hD hS
        refine lv_iload_n (pc := 52) gX gB dM_may_52 rfl (lv_at hl 2 rfl) ?_
        refine lv_bipush (pc := 53) (v := iv 8) gX gB dM_may_53 (by decide) ?_
        refine jv_icmp_ne (pc := 55) (tgt := 60) gX gB dM_may_55 (by decide) rgy (by decide) (fun h16 => ?_) (fun h16 => ?_)
        · skip
          exact cut60  _ _ _ (by exact fun h => h.elim (fun z => absurd z (by assumption)) (fun h => h.elim (fun z => absurd z (by assumption)) (fun z => absurd z (by assumption)))) hl hP hD hS
        exact cut58  _ _ _ (by exact Or.inr (Or.inr (by assumption))) hl hP hD hS
      refine lv_iload_n (pc := 33) gX gB dM_may_33 rfl (lv_at hl 2 rfl) ?_
      refine lv_iconst (pc := 34) (v := iv 2) gX gB dM_may_34 rfl ?_
      refine jv_icmp_ne (pc := 35) (tgt := 40) gX gB dM_may_35 (by decide) rgx (by decide) (fun h17 => ?_) (fun h17 => ?_)
      · skip
        exact cut40  _ _ _ (by assumption) (lv_sub hl [1, 2, 3, 4, 0] rfl) hP hD hS
      refine lv_iconst (pc := 38) (v := iv 1) gX gB dM_may_38 rfl ?_
      exact hret _ (1) dM_may_39 (Or.inr rfl) ⟨rfl, by refine ⟨Or.inr rfl, ?_⟩; unfold mayv; exact (if_pos (Or.inl (by omega))).symm⟩ hP hD hS
    refine lv_iload_n (pc := 16) gX gB dM_may_16 rfl (lv_at hl 3 rfl) ?_
    refine jv_if_eq (pc := 17) (tgt := 26) gX gB dM_may_17 (by decide) rgy (fun h18 => ?_) (fun h18 => ?_)
    · skip
      refine lv_iconst (pc := 26) (v := iv 1) gX gB dM_may_26 rfl ?_
      refine lv_goto (pc := 27) (tgt := 31) gX gB dM_may_27 (by decide) ?_
      exact cut31 1 _ _ _ (by omega) (lv_sub hl [1, 2, 3, 0] rfl) hP hD hS
    refine lv_iload_n (pc := 20) gX gB dM_may_20 rfl (lv_at hl 3 rfl) ?_
    refine lv_bipush (pc := 21) (v := iv 9) gX gB dM_may_21 (by decide) ?_
    refine jv_icmp_ne (pc := 23) (tgt := 30) gX gB dM_may_23 (by decide) rgy (by decide) (fun h19 => ?_) (fun h19 => ?_)
    · skip
      refine lv_iconst (pc := 30) (v := iv 0) gX gB dM_may_30 rfl ?_
      exact cut31 0 _ _ _ (by omega) (lv_sub hl [1, 2, 3, 0] rfl) hP hD hS
    refine lv_iconst (pc := 26) (v := iv 1) gX gB dM_may_26 rfl ?_
    refine lv_goto (pc := 27) (tgt := 31) gX gB dM_may_27 (by decide) ?_
    exact cut31 1 _ _ _ (by omega) (lv_sub hl [1, 2, 3, 0] rfl) hP hD hS
  refine lv_iload_n (pc := 0) gX gB dM_may_0 rfl (lv_at hl 1 rfl) ?_
  refine jv_if_eq (pc := 1) (tgt := 10) gX gB dM_may_1 (by decide) rgx (fun h20 => ?_) (fun h20 => ?_)
  · skip
    refine lv_iconst (pc := 10) (v := iv 1) gX gB dM_may_10 rfl ?_
    refine lv_goto (pc := 11) (tgt := 15) gX gB dM_may_11 (by decide) ?_
    exact cut15 1 _ _ _ (by omega) hl hP hD hS
  refine lv_iload_n (pc := 4) gX gB dM_may_4 rfl (lv_at hl 1 rfl) ?_
  refine lv_bipush (pc := 5) (v := iv 9) gX gB dM_may_5 (by decide) ?_
  refine jv_icmp_ne (pc := 7) (tgt := 14) gX gB dM_may_7 (by decide) rgx (by decide) (fun h21 => ?_) (fun h21 => ?_)
  · skip
    refine lv_iconst (pc := 14) (v := iv 0) gX gB dM_may_14 rfl ?_
    exact cut15 0 _ _ _ (by omega) hl hP hD hS
  refine lv_iconst (pc := 10) (v := iv 1) gX gB dM_may_10 rfl ?_
  refine lv_goto (pc := 11) (tgt := 15) gX gB dM_may_11 (by decide) ?_
  exact cut15 1 _ _ _ (by omega) hl hP hD hS
set_option maxRecDepth 100000 in
set_option maxHeartbeats 2000000 in
theorem c_M_line (l : Launch) (dC : Nat → ClassId) (dI : Nat → Nat → Nat) (cI : ClassId) (cZ : ClassId) (cG : ClassId) (cR : ClassId) (ad : Nat → Nat) (th : Int) (tb : Int → Int) (fi : Int → Int) (se : Int → Int) (lf : Int → Int) (ct : Int → Int) (ln : Int) (tx : Int → Int) (kl : Int → Int) (kp : Int → Int) (fl : Int) (fo : Int → Int) (ol : Int) (ot : Int → Int) (pl : Int → Int) (ky : Int) (nu : Int → Int) (yk : Int) (yn : Int → Int) (lc : Int → Int) (fw : Int → Int) (sd : Int → Int) (lw : Int → Int) (od : Int → Int) (sz : Nat) (i : Int) (hT : TBK tb) (hi : -2147483648 ≤ i ∧ i < 2147483648) (hl9 : 0 ≤ ln ∧ ln ≤ 40) (htx : ∀ j, 0 ≤ j → j < ln → 0 ≤ tx j ∧ tx j < 75) : Met l yM_line wsM_line ({ frames := 2, cells := 0, slots := 0, locals := 44 }) (va_Pc [.ref (ad 0), .int (iv i)] (jPre (dC, dI) (jT cI cZ cG cR) (pM cI cZ cG cR ad th tb fi se lf ct ln tx kl kp fl fo ol ot pl ky nu yk yn lc fw sd lw od) sz)) (va_Qi (fun (r0 : Int32) (u : Int × Int × (Int → Int) × (Int → Int)) => r0 = iv u.1 ∧ (((i < 0 ∨ ln < i) ∧ u.2.1 = 1) ∨ (0 ≤ i ∧ i ≤ ln ∧ u.2.1 = 0 ∧ u.1 = lnf (lzM tb) tx ln i))) (fun u => jEnd (dC, dI) (jT cI cZ cG cR) (va_A (pM cI cZ cG cR ad th tb fi se lf ct ln tx kl kp fl fo ol ot pl ky nu yk yn lc fw sd lw od) sz) (pM cI cZ cG cR ad u.2.1 tb fi se lf ct ln tx kl kp fl fo ol ot pl ky nu yk yn u.2.2.1 u.2.2.2 sd lw od)) (va_A (pM cI cZ cG cR ad th tb fi se lf ct ln tx kl kp fl fo ol ot pl ky nu yk yn lc fw sd lw od) sz)) 0 0 (va_A (pM cI cZ cG cR ad th tb fi se lf ct ln tx kl kp fl fo ol ot pl ky nu yk yn lc fw sd lw od) sz) := by
  refine jv_mi (cc := cM_line) (maxL := 6) (by decide) rfl (Nat.le_of_ble_eq_true rfl) ?_
  intro p0 e0 s0 m0 a0 b0 t0 c0 R0 Q0 A0 ls gX gB hts hown hml hRf hRl hA hK hret hl hP hD hS
  have hown : s0.vm.findClass "TextPipelineModel" = some m0.cls := hown
  have hw0 : ∀ w ∈ WS0, w.before a0 s0 = true := fun w h => hts w (List.mem_cons_of_mem _ h)
  have hl : lv_has ls 6 [(0, .ref (ad 0)), (1, .int (iv i))] := hl
  have hRf : 2 ≤ R0.frames := hRf
  have hRl : 44 ≤ R0.locals := hRl
  refine lv_aload_n (pc := 0) gX gB dM_line_0 rfl (lv_at hl 0 rfl) ?_
  refine lv_aload_n (pc := 1) gX gB dM_line_1 rfl (lv_at hl 0 rfl) ?_
  refine lv_iload_n (pc := 2) gX gB dM_line_2 rfl (lv_at hl 1 rfl) ?_
  refine lv_aload_n (pc := 3) gX gB dM_line_3 rfl (lv_at hl 0 rfl) ?_
  refine va_get (pc := 4) (D := (dC, dI)) (ci := 5) (v := .int (iv ln)) (C := RM) (T := TM) (N := 24) gX gB hw0 inM hown hK hP 0 rfl rfl 6 (by decide) (hw0 _ q657) (fun _ h9 => h9) rfl dM_line_4 ?_
  refine lv_iconst (pc := 7) (v := iv 1) gX gB dM_line_7 rfl ?_
  refine jv_iadd (pc := 8) (x := ln) (y := 1) gX gB dM_line_8 ?_
  refine jv_ri (pc := 9) (wr := []) (wn := fun u : Int => (pM cI cZ cG cR ad th tb fi se lf ct ln tx kl kp fl fo ol ot pl ky nu yk yn lc fw sd lw od)) (va_runV (rest := [.ref (ad 0)]) ⟨gX, gB, hml, hown, hw0⟩ (c_M_noPlace l dC dI cI cZ cG cR ad th tb fi se lf ct ln tx kl kp fl fo ol ot pl ky nu yk yn lc fw sd lw od _ i (ln + 1) (by omega) (by omega)) (jcV hw0 kM_noPlace q752 rfl rfl ⟨Nat.le_trans (Nat.le_of_ble_eq_true rfl) hRf, Nat.le_trans (Nat.le_of_ble_eq_true rfl) hRl⟩) (jv_preV (ci := 5) (q0 := 0) hK hP hD [0, 1, 2, 3, 4, 5, 6, 7, 8, 9, 10, 11, 12, 13, 14, 15, 16, 17, 18] rfl (by decide) rfl rfl) rfl rfl hl.1 rfl (lv_room (Nat.le_of_ble_eq_true rfl)) dM_line_9 ⟨Nat.zero_le _, Nat.zero_le _⟩) hP hD hS hA [0, 1, 2, 3, 4, 5, 6, 7, 8, 9, 10, 11, 12, 13, 14, 15, 16, 17, 18] [] [0, 1, 2, 3, 4, 5, 6, 7, 8, 9, 10, 11, 12, 13, 14, 15, 16, 17, 18] rfl rfl (by decide) (by decide) (by decide) (fun _ => rfl) (fun r0 u H locs hw9 hP hD hS => ?_)
  obtain ⟨r_9, hu⟩ : ∃ z, z = u := ⟨_, rfl⟩; subst hu
  obtain ⟨rfl, hw9⟩ := hw9
  refine jv_if_eq (pc := 12) (tgt := 19) gX gB dM_line_12 (by decide) (by omega) (fun h1 => ?_) (fun h1 => ?_)
  · skip
    refine lv_iconst (pc := 19) (v := iv 0) gX gB dM_line_19 rfl ?_
    refine jv_put (pc := 20) (D := (dC, dI)) (ci := 5) (v := .int (iv 0)) (ty := .int) (C := RM) (T := TM) (N := 24) (ws' := (pM cI cZ cG cR ad 0 tb fi se lf ct ln tx kl kp fl fo ol ot pl ky nu yk yn lc fw sd lw od)) gX gB hw0 inM tyM tyM_ok nmM hown hK hP hD hS 0 rfl rfl 0 (by decide) (hw0 _ q651) (fun _ h9 => h9) rfl (by decide +kernel) rfl rfl (Nat.le_of_ble_eq_true rfl) dM_line_20 rfl (fun H locs hP hD hS => ?_)
    refine lv_aload_n (pc := 23) gX gB dM_line_23 rfl (lv_at hl 0 rfl) ?_
    refine va_get (pc := 24) (D := (dC, dI)) (ci := 5) (v := .int (iv 0)) (C := RM) (T := TM) (N := 24) gX gB hw0 inM hown hK hP 0 rfl rfl 0 (by decide) (hw0 _ q651) (fun _ h9 => h9) rfl dM_line_24 ?_
    refine jv_if_ne (pc := 27) (tgt := 34) gX gB dM_line_27 (by decide) (by decide) (fun h2 => ?_) (fun h2 => ?_)
    · exact absurd h2 (by decide)
    refine lv_iload_n (pc := 30) gX gB dM_line_30 rfl (lv_at hl 1 rfl) ?_
    refine jv_if_ne (pc := 31) (tgt := 36) gX gB dM_line_31 (by decide) (by omega) (fun h3 => ?_) (fun h3 => ?_)
    · skip
      refine lv_aload_n (pc := 36) gX gB dM_line_36 rfl (lv_at hl 0 rfl) ?_
      refine jv_rv (pc := 37) (wr := []) (wn := fun u : (Int → Int) × (Int → Int) => (pM cI cZ cG cR ad 0 tb fi se lf ct ln tx kl kp fl fo ol ot pl ky nu yk yn u.1 u.2 sd lw od)) (va_runV (rest := []) ⟨gX, gB, hml, hown, hw0⟩ (c_M_classLines l dC dI cI cZ cG cR ad 0 tb fi se lf ct ln tx kl kp fl fo ol ot pl ky nu yk yn lc fw sd lw od _  (by omega) (by omega) (by omega)) (jcV hw0 kM_classLines q852 rfl rfl ⟨Nat.le_trans (Nat.le_of_ble_eq_true rfl) hRf, Nat.le_trans (Nat.le_of_ble_eq_true rfl) hRl⟩) (jv_preV (ci := 5) (q0 := 0) hK hP hD [0, 1, 2, 3, 4, 5, 6, 7, 8, 9, 10, 11, 12, 13, 14, 15, 16, 17, 18] rfl (by decide) rfl rfl) rfl rfl hl.1 rfl (lv_room (Nat.le_of_ble_eq_true rfl)) dM_line_37 ⟨Nat.zero_le _, Nat.zero_le _⟩) hP hD hS hA [0, 1, 2, 3, 4, 5, 6, 7, 8, 9, 10, 11, 12, 13, 14, 15, 16, 17, 18] [] [0, 1, 2, 3, 4, 5, 6, 7, 8, 9, 10, 11, 12, 13, 14, 15, 16, 17, 18] rfl rfl (by decide) (by decide) (by decide) (fun _ => rfl) (fun u H locs hw37 hP hD hS => ?_)
      obtain ⟨lc_37, fw_37⟩ := u
      dsimp only at hw37 hP hD
      have hi0 : 0 ≤ i ∧ i ≤ ln := by omega
      have hrr : ∀ j, 0 ≤ j → j < ln → 0 ≤ lc_37 j ∧ lc_37 j ≤ 12 := fun j a b => by rw [(hw37 j a b).1]; exact lkf_rng (fun c h => lzM_rng hT h) _ (fun j2 a2 b2 => (htx j2 a2 (by omega)).1)
      have hx0 := (hw37 (i - 1) (by omega) (by omega)).1
      have hx9 := hrr (i - 1) (by omega) (by omega)
      refine lv_aload_n (pc := 40) gX gB dM_line_40 rfl (lv_at hl 0 rfl) ?_
      refine va_get (pc := 41) (D := (dC, dI)) (ci := 5) (v := .ref (ad 19)) (C := RM) (T := TM) (N := 24) gX gB hw0 inM hown hK hP 0 rfl rfl 19 (by decide) (hw0 _ q670) (fun _ h9 => h9) rfl dM_line_41 ?_
      refine lv_iload_n (pc := 44) gX gB dM_line_44 rfl (lv_at hl 1 rfl) ?_
      refine lv_iconst (pc := 45) (v := iv 1) gX gB dM_line_45 rfl ?_
      refine jv_isub (pc := 46) (x := i) (y := 1) gX gB dM_line_46 ?_
      refine jv_iald (pc := 47) gX gB hK hP 14 0 rfl rfl (by decide) (by omega) dM_line_47 ?_
      refine lv_istore_n (pc := 48) (lv' := [(2, .int (iv (lc_37 (i - 1)))), (0, .ref (ad 0)), (1, .int (iv i))]) gX gB dM_line_48 rfl hl (by decide) rfl (fun ls hl => ?_)
      have cut62 : ∀ (ls : Array Slot) (H : Heap) (locs : List Loc), (lnf (lzM tb) tx ln i = 2) → lv_has ls 6 [(0, .ref (ad 0)), (1, .int (iv i)), (2, .int (iv (lc_37 (i - 1))))] → va_P (dC, dI) vwCl (pM cI cZ cG cR ad 0 tb fi se lf ct ln tx kl kp fl fo ol ot pl ky nu yk yn lc_37 fw_37 sd lw od) H → va_D A0 (pM cI cZ cG cR ad 0 tb fi se lf ct ln tx kl kp fl fo ol ot pl ky nu yk yn lc_37 fw_37 sd lw od) → va_S A0 s0.heap H locs → W p0 l e0 R0 s0 m0 a0 b0 t0 c0 H locs 0 0 Q0 (F0 m0 62 ls []) := by
        intro  ls H locs h62 hl hP hD hS
        refine lv_iconst (pc := 62) (v := iv 2) gX gB dM_line_62 rfl ?_
        exact hret _ (2, 0, lc_37, fw_37) dM_line_63 ⟨rfl, by first | (dsimp only; exact Or.inr ⟨hi0.1, hi0.2, rfl, h62.symm⟩) | (exact Or.inr ⟨hi0.1, hi0.2, rfl, h62.symm⟩)⟩ hP hD hS
      refine lv_iload_n (pc := 49) gX gB dM_line_49 rfl (lv_at hl 2 rfl) ?_
      refine lv_aload_n (pc := 50) gX gB dM_line_50 rfl (lv_at hl 1 rfl) ?_
      refine va_get (pc := 51) (D := (dC, dI)) (ci := 5) (v := .int (iv ln)) (C := RM) (T := TM) (N := 24) gX gB hw0 inM hown hK hP 0 rfl rfl 6 (by decide) (hw0 _ q657) (fun _ h9 => h9) rfl dM_line_51 ?_
      refine jv_icmp_eq (pc := 54) (tgt := 62) gX gB dM_line_54 (by decide) (by omega) (by omega) (fun h4 => ?_) (fun h4 => ?_)
      · skip
        exact cut62  _ _ _ (by unfold lnf; rw [if_neg (by omega), if_pos (by omega)]) (lv_sub hl [1, 2, 0] rfl) hP hD hS
      refine lv_iload_n (pc := 57) gX gB dM_line_57 rfl (lv_at hl 0 rfl) ?_
      refine lv_iconst (pc := 58) (v := iv 1) gX gB dM_line_58 rfl ?_
      refine jv_icmp_ne (pc := 59) (tgt := 64) gX gB dM_line_59 (by decide) (by omega) (by decide) (fun h5 => ?_) (fun h5 => ?_)
      · skip
        have hy0 := hw37 i (by omega) (by omega)
        have hy9 := hrr i (by omega) (by omega)
        refine lv_aload_n (pc := 64) gX gB dM_line_64 rfl (lv_at hl 1 rfl) ?_
        refine va_get (pc := 65) (D := (dC, dI)) (ci := 5) (v := .ref (ad 19)) (C := RM) (T := TM) (N := 24) gX gB hw0 inM hown hK hP 0 rfl rfl 19 (by decide) (hw0 _ q670) (fun _ h9 => h9) rfl dM_line_65 ?_
        refine lv_iload_n (pc := 68) gX gB dM_line_68 rfl (lv_at hl 2 rfl) ?_
        refine jv_iald (pc := 69) gX gB hK hP 14 0 rfl rfl (by decide) (by omega) dM_line_69 ?_
        refine lv_istore_n (pc := 70) (lv' := [(3, .int (iv (lc_37 i))), (2, .int (iv (lc_37 (i - 1)))), (0, .ref (ad 0)), (1, .int (iv i))]) gX gB dM_line_70 rfl hl (by decide) rfl (fun ls hl => ?_)
        refine lv_aload_n (pc := 71) gX gB dM_line_71 rfl (lv_at hl 2 rfl) ?_
        refine lv_iload_n (pc := 72) gX gB dM_line_72 rfl (lv_at hl 3 rfl) ?_
        refine lv_iconst (pc := 73) (v := iv 1) gX gB dM_line_73 rfl ?_
        refine jv_isub (pc := 74) (x := i) (y := 1) gX gB dM_line_74 ?_
        refine jv_ri (pc := 75) (wr := []) (wn := fun u : Int => (pM cI cZ cG cR ad 0 tb fi se lf ct ln tx kl kp fl fo ol ot pl ky nu yk yn lc_37 fw_37 sd lw od)) (va_runV (rest := []) ⟨gX, gB, hml, hown, hw0⟩ (c_M_overSpaces l dC dI cI cZ cG cR ad 0 tb fi se lf ct ln tx kl kp fl fo ol ot pl ky nu yk yn lc_37 fw_37 sd lw od _ (i - 1) (by omega) (by exact fun j a b => hrr j a (by omega))) (jcV hw0 kM_overSpaces q856 rfl rfl ⟨Nat.le_trans (Nat.le_of_ble_eq_true rfl) hRf, Nat.le_trans (Nat.le_of_ble_eq_true rfl) hRl⟩) (jv_preV (ci := 5) (q0 := 0) hK hP hD [0, 1, 2, 3, 4, 5, 6, 7, 8, 9, 10, 11, 12, 13, 14, 15, 16, 17, 18] rfl (by decide) rfl rfl) rfl rfl hl.1 rfl (lv_room (Nat.le_of_ble_eq_true rfl)) dM_line_75 ⟨Nat.zero_le _, Nat.zero_le _⟩) hP hD hS hA [0, 1, 2, 3, 4, 5, 6, 7, 8, 9, 10, 11, 12, 13, 14, 15, 16, 17, 18] [] [0, 1, 2, 3, 4, 5, 6, 7, 8, 9, 10, 11, 12, 13, 14, 15, 16, 17, 18] rfl rfl (by decide) (by decide) (by decide) (fun _ => rfl) (fun r0 u H locs hw75 hP hD hS => ?_)
        obtain ⟨r_75, hu⟩ : ∃ z, z = u := ⟨_, rfl⟩; subst hu
        obtain ⟨rfl, hw75⟩ := hw75
        have hz9 : -1 ≤ r_75 ∧ r_75 ≤ 12 := by rw [hw75]; exact osf_rng _ (fun j a b => hrr j a (by omega))
        have hlnf : lnf (lzM tb) tx ln i = lbf (lc_37 (i - 1)) (lc_37 i) r_75 (fw_37 i) := by unfold lnf; rw [if_neg (by omega), if_neg (by omega), hx0, hy0.1, hy0.2, hw75, show i - 1 + 1 = i by omega, osf_congr (g := lc_37) (h := fun j => lkf (lzM tb) tx j.toNat) i.toNat (fun j a b => (hw37 j a (by omega)).1)]
        refine lv_istore (pc := 78) (lv' := [(4, .int (iv r_75)), (3, .int (iv (lc_37 i))), (2, .int (iv (lc_37 (i - 1)))), (0, .ref (ad 0)), (1, .int (iv i))]) gX gB dM_line_78 hl (by decide) rfl (fun ls hl => ?_)
        have cut91 : ∀ (ls : Array Slot) (H : Heap) (locs : List Loc), (¬ (0 < lc_37 i ∧ lc_37 i < 4)) → lv_has ls 6 [(0, .ref (ad 0)), (1, .int (iv i)), (2, .int (iv (lc_37 (i - 1)))), (3, .int (iv (lc_37 i))), (4, .int (iv r_75))] → va_P (dC, dI) vwCl (pM cI cZ cG cR ad 0 tb fi se lf ct ln tx kl kp fl fo ol ot pl ky nu yk yn lc_37 fw_37 sd lw od) H → va_D A0 (pM cI cZ cG cR ad 0 tb fi se lf ct ln tx kl kp fl fo ol ot pl ky nu yk yn lc_37 fw_37 sd lw od) → va_S A0 s0.heap H locs → W p0 l e0 R0 s0 m0 a0 b0 t0 c0 H locs 0 0 Q0 (F0 m0 91 ls []) := by
          intro  ls H locs h91 hl hP hD hS
          refine lv_iload (pc := 91) gX gB dM_line_91 (lv_at hl 4 rfl) ?_
          refine lv_iconst (pc := 93) (v := iv 3) gX gB dM_line_93 rfl ?_
          refine jv_icmp_ne (pc := 94) (tgt := 99) gX gB dM_line_94 (by decide) (by omega) (by decide) (fun h6 => ?_) (fun h6 => ?_)
          · skip
            have hf9 : fw_37 i = 0 ∨ fw_37 i = 1 := by rw [hy0.2]; unfold flf; split; exact Or.inr rfl; exact Or.inl rfl
            have cut152 : ∀ (ls : Array Slot) (H : Heap) (locs : List Loc), (¬ (fw_37 i = 1 ∨ lc_37 (i - 1) = 4 ∨ lc_37 i = 4 ∨ lc_37 i = 6 ∨ lc_37 i = 12 ∨ r_75 = 5 ∨ (r_75 = 7 ∧ lc_37 i = 5))) → lv_has ls 6 [(0, .ref (ad 0)), (1, .int (iv i)), (2, .int (iv (lc_37 (i - 1)))), (3, .int (iv (lc_37 i)))] → va_P (dC, dI) vwCl (pM cI cZ cG cR ad 0 tb fi se lf ct ln tx kl kp fl fo ol ot pl ky nu yk yn lc_37 fw_37 sd lw od) H → va_D A0 (pM cI cZ cG cR ad 0 tb fi se lf ct ln tx kl kp fl fo ol ot pl ky nu yk yn lc_37 fw_37 sd lw od) → va_S A0 s0.heap H locs → W p0 l e0 R0 s0 m0 a0 b0 t0 c0 H locs 0 0 Q0 (F0 m0 152 ls []) := by
              intro  ls H locs h152 hl hP hD hS
              refine lv_iconst (pc := 152) (v := iv 0) gX gB dM_line_152 rfl ?_
              refine lv_istore (pc := 153) (lv' := [(5, .int (iv 0)), (0, .ref (ad 0)), (1, .int (iv i)), (2, .int (iv (lc_37 (i - 1)))), (3, .int (iv (lc_37 i)))]) gX gB dM_line_153 hl (by decide) rfl (fun ls hl => ?_)
              refine lv_iload (pc := 155) gX gB dM_line_155 (lv_at hl 0 rfl) ?_
              refine jv_if_ne (pc := 157) (tgt := 173) gX gB dM_line_157 (by decide) (by decide) (fun h7 => ?_) (fun h7 => ?_)
              · exact absurd h7 (by decide)
              refine lv_aload_n (pc := 160) gX gB dM_line_160 rfl (lv_at hl 1 rfl) ?_
              refine lv_iload_n (pc := 161) gX gB dM_line_161 rfl (lv_at hl 3 rfl) ?_
              refine lv_iload_n (pc := 162) gX gB dM_line_162 rfl (lv_at hl 4 rfl) ?_
              refine jv_ri (pc := 163) (wr := []) (wn := fun u : Int => (pM cI cZ cG cR ad 0 tb fi se lf ct ln tx kl kp fl fo ol ot pl ky nu yk yn lc_37 fw_37 sd lw od)) (va_runV (rest := []) ⟨gX, gB, hml, hown, hw0⟩ (c_M_may l dC dI cI cZ cG cR ad 0 tb fi se lf ct ln tx kl kp fl fo ol ot pl ky nu yk yn lc_37 fw_37 sd lw od _ (lc_37 (i - 1)) (lc_37 i) (by omega) (by omega)) (jcV hw0 kM_may q860 rfl rfl ⟨Nat.le_trans (Nat.le_of_ble_eq_true rfl) hRf, Nat.le_trans (Nat.le_of_ble_eq_true rfl) hRl⟩) (jv_preV (ci := 5) (q0 := 0) hK hP hD [0, 1, 2, 3, 4, 5, 6, 7, 8, 9, 10, 11, 12, 13, 14, 15, 16, 17, 18] rfl (by decide) rfl rfl) rfl rfl hl.1 rfl (lv_room (Nat.le_of_ble_eq_true rfl)) dM_line_163 ⟨Nat.zero_le _, Nat.zero_le _⟩) hP hD hS hA [0, 1, 2, 3, 4, 5, 6, 7, 8, 9, 10, 11, 12, 13, 14, 15, 16, 17, 18] [] [0, 1, 2, 3, 4, 5, 6, 7, 8, 9, 10, 11, 12, 13, 14, 15, 16, 17, 18] rfl rfl (by decide) (by decide) (by decide) (fun _ => rfl) (fun r0 u H locs hw163 hP hD hS => ?_)
              obtain ⟨r_163, hu⟩ : ∃ z, z = u := ⟨_, rfl⟩; subst hu
              obtain ⟨rfl, hw163⟩ := hw163
              refine jv_if_eq (pc := 166) (tgt := 173) gX gB dM_line_166 (by decide) (by omega) (fun h8 => ?_) (fun h8 => ?_)
              · skip
                refine lv_iconst (pc := 173) (v := iv 0) gX gB dM_line_173 rfl ?_
                exact hret _ (0, 0, lc_37, fw_37) dM_line_174 ⟨rfl, by first | (dsimp only; refine Or.inr ⟨hi0.1, hi0.2, rfl, ?_⟩; rw [hlnf]; first | exact h148.symm | (unfold lbf; rw [if_neg (by assumption), if_neg h91, if_neg (by assumption), if_neg h152, if_pos (by rw [← hw163.2]; exact hw163.1.resolve_left (by assumption))]) | (unfold lbf; rw [if_neg (by assumption), if_neg h91, if_neg (by assumption), if_neg h152, if_neg (by rw [← hw163.2]; intro z; omega)])) | (refine Or.inr ⟨hi0.1, hi0.2, rfl, ?_⟩; rw [hlnf]; first | exact h148.symm | (unfold lbf; rw [if_neg (by assumption), if_neg h91, if_neg (by assumption), if_neg h152, if_pos (by rw [← hw163.2]; exact hw163.1.resolve_left (by assumption))]) | (unfold lbf; rw [if_neg (by assumption), if_neg h91, if_neg (by assumption), if_neg h152, if_neg (by rw [← hw163.2]; intro z; omega)]))⟩ hP hD hS
              refine lv_iconst (pc := 169) (v := iv 1) gX gB dM_line_169 rfl ?_
              refine lv_goto (pc := 170) (tgt := 174) gX gB dM_line_170 (by decide) ?_
              exact hret _ (1, 0, lc_37, fw_37) dM_line_174 ⟨rfl, by first | (dsimp only; refine Or.inr ⟨hi0.1, hi0.2, rfl, ?_⟩; rw [hlnf]; first | exact h148.symm | (unfold lbf; rw [if_neg (by assumption), if_neg h91, if_neg (by assumption), if_neg h152, if_pos (by rw [← hw163.2]; exact hw163.1.resolve_left (by assumption))]) | (unfold lbf; rw [if_neg (by assumption), if_neg h91, if_neg (by assumption), if_neg h152, if_neg (by rw [← hw163.2]; intro z; omega)])) | (refine Or.inr ⟨hi0.1, hi0.2, rfl, ?_⟩; rw [hlnf]; first | exact h148.symm | (unfold lbf; rw [if_neg (by assumption), if_neg h91, if_neg (by assumption), if_neg h152, if_pos (by rw [← hw163.2]; exact hw163.1.resolve_left (by assumption))]) | (unfold lbf; rw [if_neg (by assumption), if_neg h91, if_neg (by assumption), if_neg h152, if_neg (by rw [← hw163.2]; intro z; omega)]))⟩ hP hD hS
            have cut148 : ∀ (ls : Array Slot) (H : Heap) (locs : List Loc), (lbf (lc_37 (i - 1)) (lc_37 i) r_75 (fw_37 i) = 0) → lv_has ls 6 [(0, .ref (ad 0)), (1, .int (iv i)), (2, .int (iv (lc_37 (i - 1)))), (3, .int (iv (lc_37 i)))] → va_P (dC, dI) vwCl (pM cI cZ cG cR ad 0 tb fi se lf ct ln tx kl kp fl fo ol ot pl ky nu yk yn lc_37 fw_37 sd lw od) H → va_D A0 (pM cI cZ cG cR ad 0 tb fi se lf ct ln tx kl kp fl fo ol ot pl ky nu yk yn lc_37 fw_37 sd lw od) → va_S A0 s0.heap H locs → W p0 l e0 R0 s0 m0 a0 b0 t0 c0 H locs 0 0 Q0 (F0 m0 148 ls []) := by
              intro  ls H locs h148 hl hP hD hS
              refine lv_iconst (pc := 148) (v := iv 1) gX gB dM_line_148 rfl ?_
              refine lv_goto (pc := 149) (tgt := 153) gX gB dM_line_149 (by decide) ?_
              refine lv_istore (pc := 153) (lv' := [(5, .int (iv 1)), (0, .ref (ad 0)), (1, .int (iv i)), (2, .int (iv (lc_37 (i - 1)))), (3, .int (iv (lc_37 i)))]) gX gB dM_line_153 hl (by decide) rfl (fun ls hl => ?_)
              refine lv_iload (pc := 155) gX gB dM_line_155 (lv_at hl 0 rfl) ?_
              refine jv_if_ne (pc := 157) (tgt := 173) gX gB dM_line_157 (by decide) (by decide) (fun h9 => ?_) (fun h9 => ?_)
              rotate_left
              · exact absurd h9 (by decide)
              refine lv_iconst (pc := 173) (v := iv 0) gX gB dM_line_173 rfl ?_
              exact hret _ (0, 0, lc_37, fw_37) dM_line_174 ⟨rfl, by first | (dsimp only; refine Or.inr ⟨hi0.1, hi0.2, rfl, ?_⟩; rw [hlnf]; first | exact h148.symm | (unfold lbf; rw [if_neg (by assumption), if_neg h91, if_neg (by assumption), if_neg h152, if_pos (by rw [← hw163.2]; exact hw163.1.resolve_left (by assumption))]) | (unfold lbf; rw [if_neg (by assumption), if_neg h91, if_neg (by assumption), if_neg h152, if_neg (by rw [← hw163.2]; intro z; omega)])) | (refine Or.inr ⟨hi0.1, hi0.2, rfl, ?_⟩; rw [hlnf]; first | exact h148.symm | (unfold lbf; rw [if_neg (by assumption), if_neg h91, if_neg (by assumption), if_neg h152, if_pos (by rw [← hw163.2]; exact hw163.1.resolve_left (by assumption))]) | (unfold lbf; rw [if_neg (by assumption), if_neg h91, if_neg (by assumption), if_neg h152, if_neg (by rw [← hw163.2]; intro z; omega)]))⟩ hP hD hS
            refine lv_aload_n (pc := 99) gX gB dM_line_99 rfl (lv_at hl 0 rfl) ?_
            refine va_get (pc := 100) (D := (dC, dI)) (ci := 5) (v := .ref (ad 20)) (C := RM) (T := TM) (N := 24) gX gB hw0 inM hown hK hP 0 rfl rfl 20 (by decide) (hw0 _ q671) (fun _ h9 => h9) rfl dM_line_100 ?_
            refine lv_iload_n (pc := 103) gX gB dM_line_103 rfl (lv_at hl 1 rfl) ?_
            refine jv_zald (pc := 104) gX gB hK hP 15 1 rfl rfl (by decide) (by omega) dM_line_104 ?_
            refine jv_if_ne (pc := 105) (tgt := 148) gX gB dM_line_105 (by decide) (by omega) (fun h10 => ?_) (fun h10 => ?_)
            · skip
              exact cut148  _ _ _ (by unfold lbf; rw [if_neg (by assumption), if_neg h91, if_neg (by assumption)]; exact if_pos (Or.inl (by rcases hf9 with z | z; exact absurd z (by assumption); exact z))) (lv_sub hl [0, 1, 2, 3] rfl) hP hD hS
            refine lv_iload_n (pc := 108) gX gB dM_line_108 rfl (lv_at hl 2 rfl) ?_
            refine lv_iconst (pc := 109) (v := iv 4) gX gB dM_line_109 rfl ?_
            refine jv_icmp_eq (pc := 110) (tgt := 148) gX gB dM_line_110 (by decide) (by omega) (by decide) (fun h11 => ?_) (fun h11 => ?_)
            · skip
              exact cut148  _ _ _ (by unfold lbf; rw [if_neg (by assumption), if_neg h91, if_neg (by assumption)]; exact if_pos (Or.inr (Or.inl (by assumption)))) (lv_sub hl [0, 1, 2, 3] rfl) hP hD hS
            refine lv_iload_n (pc := 113) gX gB dM_line_113 rfl (lv_at hl 3 rfl) ?_
            refine lv_iconst (pc := 114) (v := iv 4) gX gB dM_line_114 rfl ?_
            refine jv_icmp_eq (pc := 115) (tgt := 148) gX gB dM_line_115 (by decide) (by omega) (by decide) (fun h12 => ?_) (fun h12 => ?_)
            · skip
              exact cut148  _ _ _ (by unfold lbf; rw [if_neg (by assumption), if_neg h91, if_neg (by assumption)]; exact if_pos (Or.inr (Or.inr (Or.inl (by assumption))))) (lv_sub hl [0, 1, 2, 3] rfl) hP hD hS
            refine lv_iload_n (pc := 118) gX gB dM_line_118 rfl (lv_at hl 3 rfl) ?_
            refine lv_bipush (pc := 119) (v := iv 6) gX gB dM_line_119 (by decide) ?_
            refine jv_icmp_eq (pc := 121) (tgt := 148) gX gB dM_line_121 (by decide) (by omega) (by decide) (fun h13 => ?_) (fun h13 => ?_)
            · skip
              exact cut148  _ _ _ (by unfold lbf; rw [if_neg (by assumption), if_neg h91, if_neg (by assumption)]; exact if_pos (Or.inr (Or.inr (Or.inr (Or.inl (by assumption)))))) (lv_sub hl [0, 1, 2, 3] rfl) hP hD hS
            refine lv_iload_n (pc := 124) gX gB dM_line_124 rfl (lv_at hl 3 rfl) ?_
            refine lv_bipush (pc := 125) (v := iv 12) gX gB dM_line_125 (by decide) ?_
            refine jv_icmp_eq (pc := 127) (tgt := 148) gX gB dM_line_127 (by decide) (by omega) (by decide) (fun h14 => ?_) (fun h14 => ?_)
            · skip
              exact cut148  _ _ _ (by unfold lbf; rw [if_neg (by assumption), if_neg h91, if_neg (by assumption)]; exact if_pos (Or.inr (Or.inr (Or.inr (Or.inr (Or.inl (by assumption))))))) (lv_sub hl [0, 1, 2, 3] rfl) hP hD hS
            refine lv_iload (pc := 130) gX gB dM_line_130 (lv_at hl 4 rfl) ?_
            refine lv_iconst (pc := 132) (v := iv 5) gX gB dM_line_132 rfl ?_
            refine jv_icmp_eq (pc := 133) (tgt := 148) gX gB dM_line_133 (by decide) (by omega) (by decide) (fun h15 => ?_) (fun h15 => ?_)
            · skip
              exact cut148  _ _ _ (by unfold lbf; rw [if_neg (by assumption), if_neg h91, if_neg (by assumption)]; exact if_pos (Or.inr (Or.inr (Or.inr (Or.inr (Or.inr (Or.inl (by assumption)))))))) (lv_sub hl [0, 1, 2, 3] rfl) hP hD hS
            refine lv_iload (pc := 136) gX gB dM_line_136 (lv_at hl 4 rfl) ?_
            refine lv_bipush (pc := 138) (v := iv 7) gX gB dM_line_138 (by decide) ?_
            refine jv_icmp_ne (pc := 140) (tgt := 152) gX gB dM_line_140 (by decide) (by omega) (by decide) (fun h16 => ?_) (fun h16 => ?_)
            · skip
              exact cut152  _ _ _ (by exact fun h => by rcases h with h | h | h | h | h | h | h; omega; exact absurd h (by assumption); exact absurd h (by assumption); exact absurd h (by assumption); exact absurd h (by assumption); exact absurd h (by assumption); exact absurd h.1 (by assumption)) (lv_sub hl [0, 1, 2, 3] rfl) hP hD hS
            refine lv_iload_n (pc := 143) gX gB dM_line_143 rfl (lv_at hl 3 rfl) ?_
            refine lv_iconst (pc := 144) (v := iv 5) gX gB dM_line_144 rfl ?_
            refine jv_icmp_ne (pc := 145) (tgt := 152) gX gB dM_line_145 (by decide) (by omega) (by decide) (fun h17 => ?_) (fun h17 => ?_)
            · skip
              exact cut152  _ _ _ (by exact fun h => by rcases h with h | h | h | h | h | h | h; omega; exact absurd h (by assumption); exact absurd h (by assumption); exact absurd h (by assumption); exact absurd h (by assumption); exact absurd h (by assumption); exact absurd h.2 (by assumption)) (lv_sub hl [0, 1, 2, 3] rfl) hP hD hS
            exact cut148  _ _ _ (by unfold lbf; rw [if_neg (by assumption), if_neg h91, if_neg (by assumption)]; exact if_pos (Or.inr (Or.inr (Or.inr (Or.inr (Or.inr (Or.inr (⟨by assumption, by assumption⟩)))))))) (lv_sub hl [0, 1, 2, 3] rfl) hP hD hS
          refine lv_iconst (pc := 97) (v := iv 1) gX gB dM_line_97 rfl ?_
          exact hret _ (1, 0, lc_37, fw_37) dM_line_98 ⟨rfl, by first | (dsimp only; refine Or.inr ⟨hi0.1, hi0.2, rfl, ?_⟩; rw [hlnf]; unfold lbf; rw [if_neg (by assumption), if_neg h91, if_pos (by assumption)]) | (refine Or.inr ⟨hi0.1, hi0.2, rfl, ?_⟩; rw [hlnf]; unfold lbf; rw [if_neg (by assumption), if_neg h91, if_pos (by assumption)])⟩ hP hD hS
        refine lv_iload_n (pc := 80) gX gB dM_line_80 rfl (lv_at hl 1 rfl) ?_
        refine jv_if_le (pc := 81) (tgt := 91) gX gB dM_line_81 (by decide) (by omega) (fun h18 => ?_) (fun h18 => ?_)
        · skip
          exact cut91  _ _ _ (by omega) (lv_sub hl [3, 4, 2, 1, 0] rfl) hP hD hS
        refine lv_iload_n (pc := 84) gX gB dM_line_84 rfl (lv_at hl 1 rfl) ?_
        refine lv_iconst (pc := 85) (v := iv 4) gX gB dM_line_85 rfl ?_
        refine jv_icmp_ge (pc := 86) (tgt := 91) gX gB dM_line_86 (by decide) (by omega) (by decide) (fun h19 => ?_) (fun h19 => ?_)
        · skip
          exact cut91  _ _ _ (by omega) (lv_sub hl [3, 4, 2, 1, 0] rfl) hP hD hS
        refine lv_iconst (pc := 89) (v := iv 0) gX gB dM_line_89 rfl ?_
        exact hret _ (0, 0, lc_37, fw_37) dM_line_90 ⟨rfl, by first | (dsimp only; refine Or.inr ⟨hi0.1, hi0.2, rfl, ?_⟩; rw [hlnf]; unfold lbf; rw [if_neg (by omega), if_pos (by omega)]) | (refine Or.inr ⟨hi0.1, hi0.2, rfl, ?_⟩; rw [hlnf]; unfold lbf; rw [if_neg (by omega), if_pos (by omega)])⟩ hP hD hS
      exact cut62  _ _ _ (by unfold lnf; rw [if_neg (by omega), if_neg (by omega), ← hx0]; unfold lbf; rw [if_pos (by omega)]) (lv_sub hl [1, 2, 0] rfl) hP hD hS
    refine lv_iconst (pc := 34) (v := iv 0) gX gB dM_line_34 rfl ?_
    exact hret _ (0, 0, lc, fw) dM_line_35 ⟨rfl, by first | (dsimp only; first | exact Or.inl ⟨by omega, rfl⟩ | exact Or.inr ⟨by omega, by omega, rfl, by unfold lnf; rw [if_pos (by omega)]⟩) | (first | exact Or.inl ⟨by omega, rfl⟩ | exact Or.inr ⟨by omega, by omega, rfl, by unfold lnf; rw [if_pos (by omega)]⟩)⟩ hP hD hS
  refine lv_iconst (pc := 15) (v := iv 1) gX gB dM_line_15 rfl ?_
  refine lv_goto (pc := 16) (tgt := 20) gX gB dM_line_16 (by decide) ?_
  refine jv_put (pc := 20) (D := (dC, dI)) (ci := 5) (v := .int (iv 1)) (ty := .int) (C := RM) (T := TM) (N := 24) (ws' := (pM cI cZ cG cR ad 1 tb fi se lf ct ln tx kl kp fl fo ol ot pl ky nu yk yn lc fw sd lw od)) gX gB hw0 inM tyM tyM_ok nmM hown hK hP hD hS 0 rfl rfl 0 (by decide) (hw0 _ q651) (fun _ h9 => h9) rfl (by decide +kernel) rfl rfl (Nat.le_of_ble_eq_true rfl) dM_line_20 rfl (fun H locs hP hD hS => ?_)
  refine lv_aload_n (pc := 23) gX gB dM_line_23 rfl (lv_at hl 0 rfl) ?_
  refine va_get (pc := 24) (D := (dC, dI)) (ci := 5) (v := .int (iv 1)) (C := RM) (T := TM) (N := 24) gX gB hw0 inM hown hK hP 0 rfl rfl 0 (by decide) (hw0 _ q651) (fun _ h9 => h9) rfl dM_line_24 ?_
  refine jv_if_ne (pc := 27) (tgt := 34) gX gB dM_line_27 (by decide) (by decide) (fun h20 => ?_) (fun h20 => ?_)
  rotate_left
  · exact absurd h20 (by decide)
  refine lv_iconst (pc := 34) (v := iv 0) gX gB dM_line_34 rfl ?_
  exact hret _ (0, 1, lc, fw) dM_line_35 ⟨rfl, by first | (dsimp only; first | exact Or.inl ⟨by omega, rfl⟩ | exact Or.inr ⟨by omega, by omega, rfl, by unfold lnf; rw [if_pos (by omega)]⟩) | (first | exact Or.inl ⟨by omega, rfl⟩ | exact Or.inr ⟨by omega, by omega, rfl, by unfold lnf; rw [if_pos (by omega)]⟩)⟩ hP hD hS
