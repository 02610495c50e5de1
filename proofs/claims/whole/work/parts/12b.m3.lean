set_option maxRecDepth 100000 in
set_option maxHeartbeats 1000000 in
theorem c_M_joins (l : Launch) (dC : Nat → ClassId) (dI : Nat → Nat → Nat) (cI : ClassId) (cZ : ClassId) (cG : ClassId) (cR : ClassId) (ad : Nat → Nat) (th : Int) (tb : Int → Int) (fi : Int → Int) (se : Int → Int) (lf : Int → Int) (ct : Int → Int) (ln : Int) (tx : Int → Int) (kl : Int → Int) (kp : Int → Int) (fl : Int) (fo : Int → Int) (ol : Int) (ot : Int → Int) (pl : Int → Int) (ky : Int) (nu : Int → Int) (yk : Int) (yn : Int → Int) (lc : Int → Int) (fw : Int → Int) (sd : Int → Int) (lw : Int → Int) (od : Int → Int) (sz : Nat) (a : Int) (b : Int) (ha : 0 ≤ a ∧ a < 75) (hb9 : 0 ≤ b ∧ b < 75) (hT : TBK tb) (hv : vpt fi se) (hlf : ∀ j, 0 ≤ j → j < 40 → lf j = 0 ∨ lf j = 1) : Met l yM_joins wsM_joins ({ frames := 2, cells := 0, slots := 0, locals := 43 }) (va_Pc [.ref (ad 0), .int (iv a), .int (iv b)] (jPre (dC, dI) (jT cI cZ cG cR) (pM cI cZ cG cR ad th tb fi se lf ct ln tx kl kp fl fo ol ot pl ky nu yk yn lc fw sd lw od) sz)) (va_Qi (fun (r0 : Int32) (u : Int) => r0 = iv u ∧ (u = jnM tb fi se lf a b ∧ -1 ≤ u ∧ u < 75)) (fun u => jEnd (dC, dI) (jT cI cZ cG cR) (va_A (pM cI cZ cG cR ad th tb fi se lf ct ln tx kl kp fl fo ol ot pl ky nu yk yn lc fw sd lw od) sz) (pM cI cZ cG cR ad th tb fi se lf ct ln tx kl kp fl fo ol ot pl ky nu yk yn lc fw sd lw od)) (va_A (pM cI cZ cG cR ad th tb fi se lf ct ln tx kl kp fl fo ol ot pl ky nu yk yn lc fw sd lw od) sz)) 0 0 (va_A (pM cI cZ cG cR ad th tb fi se lf ct ln tx kl kp fl fo ol ot pl ky nu yk yn lc fw sd lw od) sz) := by
  refine jv_mi (cc := cM_joins) (maxL := 5) (by decide) rfl (Nat.le_of_ble_eq_true rfl) ?_
  intro p0 e0 s0 m0 a0 b0 t0 c0 R0 Q0 A0 ls gX gB hts hown hml hRf hRl hA hK hret hl hP hD hS
  have hown : s0.vm.findClass "TextPipelineModel" = some m0.cls := hown
  have hw0 : ∀ w ∈ WS0, w.before a0 s0 = true := fun w h => hts w (List.mem_cons_of_mem _ h)
  have hl : lv_has ls 5 [(0, .ref (ad 0)), (1, .int (iv a)), (2, .int (iv b))] := hl
  have hRf : 2 ≤ R0.frames := hRf
  have hRl : 43 ≤ R0.locals := hRl
  have hjr := jnM_rng (tb := tb) (fi := fi) (se := se) (lf := lf) ha hb9
  have cut34 : ∀ (ls : Array Slot) (H : Heap) (locs : List Loc), (¬ ((40 ≤ a ∧ a < 43) ∧ (43 ≤ b ∧ b < 46))) → lv_has ls 5 [(0, .ref (ad 0)), (1, .int (iv a)), (2, .int (iv b))] → va_P (dC, dI) vwCl (pM cI cZ cG cR ad th tb fi se lf ct ln tx kl kp fl fo ol ot pl ky nu yk yn lc fw sd lw od) H → va_D A0 (pM cI cZ cG cR ad th tb fi se lf ct ln tx kl kp fl fo ol ot pl ky nu yk yn lc fw sd lw od) → va_S A0 s0.heap H locs → W p0 l e0 R0 s0 m0 a0 b0 t0 c0 H locs 0 0 Q0 (F0 m0 34 ls []) := by
    intro  ls H locs hn1 hl hP hD hS
    have cut57 : ∀ (ls : Array Slot) (H : Heap) (locs : List Loc), (¬ ((47 < a ∧ a % 3 = 0) ∧ (46 ≤ b ∧ b < 48))) → lv_has ls 5 [(0, .ref (ad 0)), (1, .int (iv a)), (2, .int (iv b))] → va_P (dC, dI) vwCl (pM cI cZ cG cR ad th tb fi se lf ct ln tx kl kp fl fo ol ot pl ky nu yk yn lc fw sd lw od) H → va_D A0 (pM cI cZ cG cR ad th tb fi se lf ct ln tx kl kp fl fo ol ot pl ky nu yk yn lc fw sd lw od) → va_S A0 s0.heap H locs → W p0 l e0 R0 s0 m0 a0 b0 t0 c0 H locs 0 0 Q0 (F0 m0 57 ls []) := by
      intro  ls H locs hn2 hl hP hD hS
      refine lv_iconst (pc := 57) (v := iv (-1)) gX gB dM_joins_57 rfl ?_
      refine lv_istore_n (pc := 58) (lv' := [(3, .int (iv (-1))), (0, .ref (ad 0)), (1, .int (iv a)), (2, .int (iv b))]) gX gB dM_joins_58 rfl hl (by decide) rfl (fun ls hl => ?_)
      refine lv_bipush (pc := 59) (v := iv 39) gX gB dM_joins_59 (by decide) ?_
      refine lv_istore (pc := 61) (lv' := [(4, .int (iv 39)), (3, .int (iv (-1))), (0, .ref (ad 0)), (1, .int (iv a)), (2, .int (iv b))]) gX gB dM_joins_61 hl (by decide) rfl (fun ls hl => ?_)
      have cut63 : ∀ (n0 : Nat) (fd : Int) (c : Int) (ls : Array Slot) (H : Heap) (locs : List Loc), (-1 ≤ c ∧ c ≤ 39) → ((fd = -1 ∧ ∀ j, c < j → j < 40 → jokM tb fi se lf a b j = false) ∨ (c < fd ∧ fd < 40 ∧ jokM tb fi se lf a b fd = true ∧ ∀ j, c < j → j < fd → jokM tb fi se lf a b j = false)) → ((c + 1 : Int).toNat < n0) → lv_has ls 5 [(0, .ref (ad 0)), (1, .int (iv a)), (2, .int (iv b)), (3, .int (iv fd)), (4, .int (iv c))] → va_P (dC, dI) vwCl (pM cI cZ cG cR ad th tb fi se lf ct ln tx kl kp fl fo ol ot pl ky nu yk yn lc fw sd lw od) H → va_D A0 (pM cI cZ cG cR ad th tb fi se lf ct ln tx kl kp fl fo ol ot pl ky nu yk yn lc fw sd lw od) → va_S A0 s0.heap H locs → W p0 l e0 R0 s0 m0 a0 b0 t0 c0 H locs 0 0 Q0 (F0 m0 63 ls []) := by
        intro n0
        induction n0 with
        | zero => intro fd c ls H locs hc hq hm hl hP hD hS; exact absurd hm (Nat.not_lt_zero _)
        | succ n0 ih63 =>
          intro fd c ls H locs hc hq hm63 hl hP hD hS
          refine lv_iload (pc := 63) gX gB dM_joins_63 (lv_at hl 4 rfl) ?_
          refine jv_if_lt (pc := 65) (tgt := 126) gX gB dM_joins_65 (by decide) (by omega) (fun h1 => ?_) (fun h1 => ?_)
          · skip
            refine lv_iload_n (pc := 126) gX gB dM_joins_126 rfl (lv_at hl 3 rfl) ?_
            exact hret _ (fd) dM_joins_127 ⟨rfl, by have e : fd = jnM tb fi se lf a b := (by unfold jnM; rw [if_neg hn1, if_neg hn2]; refine fsx_uniq (by omega) ?_; rw [show c = -1 by omega] at hq; rcases hq with ⟨h2, h3⟩ | ⟨h2, h3, h4, h5⟩; (exact Or.inl ⟨h2, fun j p q => h3 j (by omega) (by omega)⟩); (exact Or.inr ⟨by omega, by omega, h4, fun j p q => h5 j (by omega) (by omega)⟩)); exact ⟨e, by omega⟩⟩ hP hD hS
          have hvc := hv c (by omega) (by omega)
          have hlc := hlf c (by omega) (by omega)
          have cut119 : ∀ (x : Int) (ls : Array Slot) (H : Heap) (locs : List Loc), ((jokM tb fi se lf a b c = true ∧ x = c) ∨ (jokM tb fi se lf a b c = false ∧ x = fd)) → lv_has ls 5 [(0, .ref (ad 0)), (1, .int (iv a)), (2, .int (iv b)), (3, .int (iv fd)), (4, .int (iv c))] → va_P (dC, dI) vwCl (pM cI cZ cG cR ad th tb fi se lf ct ln tx kl kp fl fo ol ot pl ky nu yk yn lc fw sd lw od) H → va_D A0 (pM cI cZ cG cR ad th tb fi se lf ct ln tx kl kp fl fo ol ot pl ky nu yk yn lc fw sd lw od) → va_S A0 s0.heap H locs → W p0 l e0 R0 s0 m0 a0 b0 t0 c0 H locs 0 0 Q0 (F0 m0 119 ls [.int (iv x)]) := by
            intro x ls H locs hx1 hl hP hD hS
            refine lv_istore_n (pc := 119) (lv' := [(3, .int (iv x)), (0, .ref (ad 0)), (1, .int (iv a)), (2, .int (iv b)), (4, .int (iv c))]) gX gB dM_joins_119 rfl hl (by decide) rfl (fun ls hl => ?_)
            refine jv_idec (pc := 120) (k := 4) (x := c) (n := (-1)) (d := 1) (lv' := [(4, .int (iv (c - 1))), (3, .int (iv x)), (0, .ref (ad 0)), (1, .int (iv a)), (2, .int (iv b))]) gX gB dM_joins_120 (by decide) hl rfl (by decide) rfl (fun ls hl => ?_)
            refine lv_goto (pc := 123) (tgt := 63) gX gB dM_joins_123 (by decide) ?_
            exact ih63 x (c - 1) _ _ _ (by omega) (by rcases hx1 with ⟨h1, rfl⟩ | ⟨h1, rfl⟩; (refine Or.inr ⟨by omega, by omega, h1, fun j h2 h3 => by omega⟩); (rcases hq with ⟨h2, h3⟩ | ⟨h2, h3, h4, h5⟩; (exact Or.inl ⟨h2, fun j p q => by by_cases e : j = c; (rw [e]; exact h1); (exact h3 j (by omega) q)⟩); (exact Or.inr ⟨by omega, h3, h4, fun j p q => by by_cases e : j = c; (rw [e]; exact h1); (exact h5 j (by omega) q)⟩))) (by omega) (lv_sub hl [2, 3, 4, 1, 0] rfl) hP hD hS
          refine lv_aload_n (pc := 68) gX gB dM_joins_68 rfl (lv_at hl 0 rfl) ?_
          refine lv_iload (pc := 69) gX gB dM_joins_69 (lv_at hl 4 rfl) ?_
          refine jv_ri (pc := 71) (wr := []) (wn := fun u : Int => (pM cI cZ cG cR ad th tb fi se lf ct ln tx kl kp fl fo ol ot pl ky nu yk yn lc fw sd lw od)) (va_runV (rest := []) ⟨gX, gB, hml, hown, hw0⟩ (c_M_rank l dC dI cI cZ cG cR ad th tb fi se lf ct ln tx kl kp fl fo ol ot pl ky nu yk yn lc fw sd lw od _ c (by omega) (by omega)) (jcV hw0 kM_rank q776 rfl rfl ⟨Nat.le_trans (Nat.le_of_ble_eq_true rfl) hRf, Nat.le_trans (Nat.le_of_ble_eq_true rfl) hRl⟩) (jv_preV (ci := 5) (q0 := 0) hK hP hD [0, 1, 2, 3, 4, 5, 6, 7, 8, 9, 10, 11, 12, 13, 14, 15, 16, 17, 18] rfl (by decide) rfl rfl) rfl rfl hl.1 rfl (lv_room (Nat.le_of_ble_eq_true rfl)) dM_joins_71 ⟨Nat.zero_le _, Nat.zero_le _⟩) hP hD hS hA [0, 1, 2, 3, 4, 5, 6, 7, 8, 9, 10, 11, 12, 13, 14, 15, 16, 17, 18] [] [0, 1, 2, 3, 4, 5, 6, 7, 8, 9, 10, 11, 12, 13, 14, 15, 16, 17, 18] rfl rfl (by decide) (by decide) (by decide) (fun _ => rfl) (fun r0 u H locs hw71 hP hD hS => ?_)
          obtain ⟨r_71, hu⟩ : ∃ z, z = u := ⟨_, rfl⟩; subst hu
          obtain ⟨rfl, hw71⟩ := hw71
          refine jv_if_ne (pc := 74) (tgt := 118) gX gB dM_joins_74 (by decide) (by omega) (fun h2 => ?_) (fun h2 => ?_)
          · skip
            refine lv_iload_n (pc := 118) gX gB dM_joins_118 rfl (lv_at hl 3 rfl) ?_
            exact cut119 fd _ _ _ (by first | (exact Or.inl ⟨decide_eq_true ⟨by omega, by omega, by omega, by omega⟩, rfl⟩) | (exact Or.inr ⟨decide_eq_false (fun h => by obtain ⟨z1, z2, z3, z4⟩ := h; omega), rfl⟩)) hl hP hD hS
          refine lv_aload_n (pc := 77) gX gB dM_joins_77 rfl (lv_at hl 0 rfl) ?_
          refine va_get (pc := 78) (D := (dC, dI)) (ci := 5) (v := .ref (ad 2)) (C := RM) (T := TM) (N := 24) gX gB hw0 inM hown hK hP 0 rfl rfl 2 (by decide) (hw0 _ q653) (fun _ h9 => h9) rfl dM_joins_78 ?_
          refine lv_iload (pc := 81) gX gB dM_joins_81 (lv_at hl 4 rfl) ?_
          refine jv_iald (pc := 83) gX gB hK hP 2 0 rfl rfl (by decide) (by omega) dM_joins_83 ?_
          refine lv_iload_n (pc := 84) gX gB dM_joins_84 rfl (lv_at hl 1 rfl) ?_
          refine jv_icmp_ne (pc := 85) (tgt := 118) gX gB dM_joins_85 (by decide) (by omega) (by omega) (fun h3 => ?_) (fun h3 => ?_)
          · skip
            refine lv_iload_n (pc := 118) gX gB dM_joins_118 rfl (lv_at hl 3 rfl) ?_
            exact cut119 fd _ _ _ (by first | (exact Or.inl ⟨decide_eq_true ⟨by omega, by omega, by omega, by omega⟩, rfl⟩) | (exact Or.inr ⟨decide_eq_false (fun h => by obtain ⟨z1, z2, z3, z4⟩ := h; omega), rfl⟩)) hl hP hD hS
          refine lv_aload_n (pc := 88) gX gB dM_joins_88 rfl (lv_at hl 0 rfl) ?_
          refine va_get (pc := 89) (D := (dC, dI)) (ci := 5) (v := .ref (ad 3)) (C := RM) (T := TM) (N := 24) gX gB hw0 inM hown hK hP 0 rfl rfl 3 (by decide) (hw0 _ q654) (fun _ h9 => h9) rfl dM_joins_89 ?_
          refine lv_iload (pc := 92) gX gB dM_joins_92 (lv_at hl 4 rfl) ?_
          refine jv_iald (pc := 94) gX gB hK hP 3 0 rfl rfl (by decide) (by omega) dM_joins_94 ?_
          refine lv_iload_n (pc := 95) gX gB dM_joins_95 rfl (lv_at hl 2 rfl) ?_
          refine jv_icmp_ne (pc := 96) (tgt := 118) gX gB dM_joins_96 (by decide) (by omega) (by omega) (fun h4 => ?_) (fun h4 => ?_)
          · skip
            refine lv_iload_n (pc := 118) gX gB dM_joins_118 rfl (lv_at hl 3 rfl) ?_
            exact cut119 fd _ _ _ (by first | (exact Or.inl ⟨decide_eq_true ⟨by omega, by omega, by omega, by omega⟩, rfl⟩) | (exact Or.inr ⟨decide_eq_false (fun h => by obtain ⟨z1, z2, z3, z4⟩ := h; omega), rfl⟩)) hl hP hD hS
          refine lv_iload_n (pc := 99) gX gB dM_joins_99 rfl (lv_at hl 2 rfl) ?_
          refine jv_if_lt (pc := 100) (tgt := 118) gX gB dM_joins_100 (by decide) (by omega) (fun h5 => ?_) (fun h5 => ?_)
          · skip
            refine lv_iload_n (pc := 118) gX gB dM_joins_118 rfl (lv_at hl 3 rfl) ?_
            exact cut119 fd _ _ _ (by first | (exact Or.inl ⟨decide_eq_true ⟨by omega, by omega, by omega, by omega⟩, rfl⟩) | (exact Or.inr ⟨decide_eq_false (fun h => by obtain ⟨z1, z2, z3, z4⟩ := h; omega), rfl⟩)) hl hP hD hS
          refine lv_aload_n (pc := 103) gX gB dM_joins_103 rfl (lv_at hl 0 rfl) ?_
          refine va_get (pc := 104) (D := (dC, dI)) (ci := 5) (v := .ref (ad 4)) (C := RM) (T := TM) (N := 24) gX gB hw0 inM hown hK hP 0 rfl rfl 4 (by decide) (hw0 _ q655) (fun _ h9 => h9) rfl dM_joins_104 ?_
          refine lv_iload (pc := 107) gX gB dM_joins_107 (lv_at hl 4 rfl) ?_
          refine jv_zald (pc := 109) gX gB hK hP 4 1 rfl rfl (by decide) (by omega) dM_joins_109 ?_
          refine jv_if_ne (pc := 110) (tgt := 118) gX gB dM_joins_110 (by decide) (by omega) (fun h6 => ?_) (fun h6 => ?_)
          · skip
            refine lv_iload_n (pc := 118) gX gB dM_joins_118 rfl (lv_at hl 3 rfl) ?_
            exact cut119 fd _ _ _ (by first | (exact Or.inl ⟨decide_eq_true ⟨by omega, by omega, by omega, by omega⟩, rfl⟩) | (exact Or.inr ⟨decide_eq_false (fun h => by obtain ⟨z1, z2, z3, z4⟩ := h; omega), rfl⟩)) hl hP hD hS
          refine lv_iload (pc := 113) gX gB dM_joins_113 (lv_at hl 4 rfl) ?_
          refine lv_goto (pc := 115) (tgt := 119) gX gB dM_joins_115 (by decide) ?_
          exact cut119 c _ _ _ (by first | (exact Or.inl ⟨decide_eq_true ⟨by omega, by omega, by omega, by omega⟩, rfl⟩) | (exact Or.inr ⟨decide_eq_false (fun h => by obtain ⟨z1, z2, z3, z4⟩ := h; omega), rfl⟩)) hl hP hD hS
      exact cut63 (((39 + 1 : Int).toNat) + 1) (-1) 39 _ _ _ (by omega) (by exact Or.inl ⟨rfl, fun j h1 h2 => by omega⟩) (Nat.lt_succ_self _) (lv_sub hl [2, 3, 4, 1, 0] rfl) hP hD hS
    refine lv_aload_n (pc := 34) gX gB dM_joins_34 rfl (lv_at hl 0 rfl) ?_
    refine lv_iload_n (pc := 35) gX gB dM_joins_35 rfl (lv_at hl 1 rfl) ?_
    refine jv_ri (pc := 36) (wr := []) (wn := fun u : Int => (pM cI cZ cG cR ad th tb fi se lf ct ln tx kl kp fl fo ol ot pl ky nu yk yn lc fw sd lw od)) (va_runV (rest := []) ⟨gX, gB, hml, hown, hw0⟩ (c_M_isOpen l dC dI cI cZ cG cR ad th tb fi se lf ct ln tx kl kp fl fo ol ot pl ky nu yk yn lc fw sd lw od _ a (by omega)) (jcV hw0 kM_isOpen q804 rfl rfl ⟨Nat.le_trans (Nat.le_of_ble_eq_true rfl) hRf, Nat.le_trans (Nat.le_of_ble_eq_true rfl) hRl⟩) (jv_preV (ci := 5) (q0 := 0) hK hP hD [0, 1, 2, 3, 4, 5, 6, 7, 8, 9, 10, 11, 12, 13, 14, 15, 16, 17, 18] rfl (by decide) rfl rfl) rfl rfl hl.1 rfl (lv_room (Nat.le_of_ble_eq_true rfl)) dM_joins_36 ⟨Nat.zero_le _, Nat.zero_le _⟩) hP hD hS hA [0, 1, 2, 3, 4, 5, 6, 7, 8, 9, 10, 11, 12, 13, 14, 15, 16, 17, 18] [] [0, 1, 2, 3, 4, 5, 6, 7, 8, 9, 10, 11, 12, 13, 14, 15, 16, 17, 18] rfl rfl (by decide) (by decide) (by decide) (fun _ => rfl) (fun r0 u H locs hw36 hP hD hS => ?_)
    obtain ⟨r_36, hu⟩ : ∃ z, z = u := ⟨_, rfl⟩; subst hu
    obtain ⟨rfl, hw36⟩ := hw36
    refine jv_if_eq (pc := 39) (tgt := 57) gX gB dM_joins_39 (by decide) (by omega) (fun h7 => ?_) (fun h7 => ?_)
    · skip
      exact cut57  _ _ _ (by omega) hl hP hD hS
    refine lv_aload_n (pc := 42) gX gB dM_joins_42 rfl (lv_at hl 0 rfl) ?_
    refine lv_iload_n (pc := 43) gX gB dM_joins_43 rfl (lv_at hl 2 rfl) ?_
    refine jv_ri (pc := 44) (wr := []) (wn := fun u : Int => (pM cI cZ cG cR ad th tb fi se lf ct ln tx kl kp fl fo ol ot pl ky nu yk yn lc fw sd lw od)) (va_runV (rest := []) ⟨gX, gB, hml, hown, hw0⟩ (c_M_isTail l dC dI cI cZ cG cR ad th tb fi se lf ct ln tx kl kp fl fo ol ot pl ky nu yk yn lc fw sd lw od _ b (by omega)) (jcV hw0 kM_isTail q808 rfl rfl ⟨Nat.le_trans (Nat.le_of_ble_eq_true rfl) hRf, Nat.le_trans (Nat.le_of_ble_eq_true rfl) hRl⟩) (jv_preV (ci := 5) (q0 := 0) hK hP hD [0, 1, 2, 3, 4, 5, 6, 7, 8, 9, 10, 11, 12, 13, 14, 15, 16, 17, 18] rfl (by decide) rfl rfl) rfl rfl hl.1 rfl (lv_room (Nat.le_of_ble_eq_true rfl)) dM_joins_44 ⟨Nat.zero_le _, Nat.zero_le _⟩) hP hD hS hA [0, 1, 2, 3, 4, 5, 6, 7, 8, 9, 10, 11, 12, 13, 14, 15, 16, 17, 18] [] [0, 1, 2, 3, 4, 5, 6, 7, 8, 9, 10, 11, 12, 13, 14, 15, 16, 17, 18] rfl rfl (by decide) (by decide) (by decide) (fun _ => rfl) (fun r0 u H locs hw44 hP hD hS => ?_)
    obtain ⟨r_44, hu⟩ : ∃ z, z = u := ⟨_, rfl⟩; subst hu
    obtain ⟨rfl, hw44⟩ := hw44
    refine jv_if_eq (pc := 47) (tgt := 57) gX gB dM_joins_47 (by decide) (by omega) (fun h8 => ?_) (fun h8 => ?_)
    · skip
      exact cut57  _ _ _ (by omega) hl hP hD hS
    refine lv_iload_n (pc := 50) gX gB dM_joins_50 rfl (lv_at hl 1 rfl) ?_
    refine lv_iload_n (pc := 51) gX gB dM_joins_51 rfl (lv_at hl 2 rfl) ?_
    refine jv_iadd (pc := 52) (x := a) (y := b) gX gB dM_joins_52 ?_
    refine lv_bipush (pc := 53) (v := iv 45) gX gB dM_joins_53 (by decide) ?_
    refine jv_isub (pc := 55) (x := a + b) (y := 45) gX gB dM_joins_55 ?_
    exact hret _ ((a + b) - 45) dM_joins_56 ⟨rfl, by have e : a + b - 45 = jnM tb fi se lf a b := (by unfold jnM; rw [if_neg hn1, if_pos ⟨by omega, by omega⟩]); exact ⟨e, by omega⟩⟩ hP hD hS
  refine lv_aload_n (pc := 0) gX gB dM_joins_0 rfl (lv_at hl 0 rfl) ?_
  refine lv_iload_n (pc := 1) gX gB dM_joins_1 rfl (lv_at hl 1 rfl) ?_
  refine jv_ri (pc := 2) (wr := []) (wn := fun u : Int => (pM cI cZ cG cR ad th tb fi se lf ct ln tx kl kp fl fo ol ot pl ky nu yk yn lc fw sd lw od)) (va_runV (rest := []) ⟨gX, gB, hml, hown, hw0⟩ (c_M_isLead l dC dI cI cZ cG cR ad th tb fi se lf ct ln tx kl kp fl fo ol ot pl ky nu yk yn lc fw sd lw od _ a (by omega)) (jcV hw0 kM_isLead q796 rfl rfl ⟨Nat.le_trans (Nat.le_of_ble_eq_true rfl) hRf, Nat.le_trans (Nat.le_of_ble_eq_true rfl) hRl⟩) (jv_preV (ci := 5) (q0 := 0) hK hP hD [0, 1, 2, 3, 4, 5, 6, 7, 8, 9, 10, 11, 12, 13, 14, 15, 16, 17, 18] rfl (by decide) rfl rfl) rfl rfl hl.1 rfl (lv_room (Nat.le_of_ble_eq_true rfl)) dM_joins_2 ⟨Nat.zero_le _, Nat.zero_le _⟩) hP hD hS hA [0, 1, 2, 3, 4, 5, 6, 7, 8, 9, 10, 11, 12, 13, 14, 15, 16, 17, 18] [] [0, 1, 2, 3, 4, 5, 6, 7, 8, 9, 10, 11, 12, 13, 14, 15, 16, 17, 18] rfl rfl (by decide) (by decide) (by decide) (fun _ => rfl) (fun r0 u H locs hw2 hP hD hS => ?_)
  obtain ⟨r_2, hu⟩ : ∃ z, z = u := ⟨_, rfl⟩; subst hu
  obtain ⟨rfl, hw2⟩ := hw2
  refine jv_if_eq (pc := 5) (tgt := 34) gX gB dM_joins_5 (by decide) (by omega) (fun h9 => ?_) (fun h9 => ?_)
  · skip
    exact cut34  _ _ _ (by omega) hl hP hD hS
  refine lv_aload_n (pc := 8) gX gB dM_joins_8 rfl (lv_at hl 0 rfl) ?_
  refine lv_iload_n (pc := 9) gX gB dM_joins_9 rfl (lv_at hl 2 rfl) ?_
  refine jv_ri (pc := 10) (wr := []) (wn := fun u : Int => (pM cI cZ cG cR ad th tb fi se lf ct ln tx kl kp fl fo ol ot pl ky nu yk yn lc fw sd lw od)) (va_runV (rest := []) ⟨gX, gB, hml, hown, hw0⟩ (c_M_isVowel l dC dI cI cZ cG cR ad th tb fi se lf ct ln tx kl kp fl fo ol ot pl ky nu yk yn lc fw sd lw od _ b (by omega)) (jcV hw0 kM_isVowel q800 rfl rfl ⟨Nat.le_trans (Nat.le_of_ble_eq_true rfl) hRf, Nat.le_trans (Nat.le_of_ble_eq_true rfl) hRl⟩) (jv_preV (ci := 5) (q0 := 0) hK hP hD [0, 1, 2, 3, 4, 5, 6, 7, 8, 9, 10, 11, 12, 13, 14, 15, 16, 17, 18] rfl (by decide) rfl rfl) rfl rfl hl.1 rfl (lv_room (Nat.le_of_ble_eq_true rfl)) dM_joins_10 ⟨Nat.zero_le _, Nat.zero_le _⟩) hP hD hS hA [0, 1, 2, 3, 4, 5, 6, 7, 8, 9, 10, 11, 12, 13, 14, 15, 16, 17, 18] [] [0, 1, 2, 3, 4, 5, 6, 7, 8, 9, 10, 11, 12, 13, 14, 15, 16, 17, 18] rfl rfl (by decide) (by decide) (by decide) (fun _ => rfl) (fun r0 u H locs hw10 hP hD hS => ?_)
  obtain ⟨r_10, hu⟩ : ∃ z, z = u := ⟨_, rfl⟩; subst hu
  obtain ⟨rfl, hw10⟩ := hw10
  refine jv_if_eq (pc := 13) (tgt := 34) gX gB dM_joins_13 (by decide) (by omega) (fun h10 => ?_) (fun h10 => ?_)
  · skip
    exact cut34  _ _ _ (by omega) hl hP hD hS
  refine lv_bipush (pc := 16) (v := iv 48) gX gB dM_joins_16 (by decide) ?_
  refine lv_bipush (pc := 18) (v := iv 9) gX gB dM_joins_18 (by decide) ?_
  refine lv_iload_n (pc := 20) gX gB dM_joins_20 rfl (lv_at hl 1 rfl) ?_
  refine lv_bipush (pc := 21) (v := iv 40) gX gB dM_joins_21 (by decide) ?_
  refine jv_isub (pc := 23) (x := a) (y := 40) gX gB dM_joins_23 ?_
  refine jv_imul (pc := 24) (x := 9) (y := a - 40) gX gB dM_joins_24 ?_
  refine jv_iadd (pc := 25) (x := 48) (y := 9 * (a - 40)) gX gB dM_joins_25 ?_
  refine lv_iconst (pc := 26) (v := iv 3) gX gB dM_joins_26 rfl ?_
  refine lv_iload_n (pc := 27) gX gB dM_joins_27 rfl (lv_at hl 2 rfl) ?_
  refine lv_bipush (pc := 28) (v := iv 43) gX gB dM_joins_28 (by decide) ?_
  refine jv_isub (pc := 30) (x := b) (y := 43) gX gB dM_joins_30 ?_
  refine jv_imul (pc := 31) (x := 3) (y := b - 43) gX gB dM_joins_31 ?_
  refine jv_iadd (pc := 32) (x := 48 + (9 * (a - 40))) (y := 3 * (b - 43)) gX gB dM_joins_32 ?_
  exact hret _ ((48 + (9 * (a - 40))) + (3 * (b - 43))) dM_joins_33 ⟨rfl, by have e : 48 + 9 * (a - 40) + 3 * (b - 43) = jnM tb fi se lf a b := (by unfold jnM; rw [if_pos ⟨by omega, by omega⟩]); exact ⟨e, by omega⟩⟩ hP hD hS
set_option maxRecDepth 100000 in
set_option maxHeartbeats 1000000 in
theorem c_M_starter (l : Launch) (dC : Nat → ClassId) (dI : Nat → Nat → Nat) (cI : ClassId) (cZ : ClassId) (cG : ClassId) (cR : ClassId) (ad : Nat → Nat) (th : Int) (tb : Int → Int) (fi : Int → Int) (se : Int → Int) (lf : Int → Int) (ct : Int → Int) (ln : Int) (tx : Int → Int) (kl : Int → Int) (kp : Int → Int) (fl : Int) (fo : Int → Int) (ol : Int) (ot : Int → Int) (pl : Int → Int) (ky : Int) (nu : Int → Int) (yk : Int) (yn : Int → Int) (lc : Int → Int) (fw : Int → Int) (sd : Int → Int) (lw : Int → Int) (od : Int → Int) (sz : Nat) (i : Int) (hT : TBK tb) (hi : 1 ≤ i ∧ i ≤ 170) (hfo : ∀ j, 0 ≤ j → j < i → 0 ≤ fo j ∧ fo j < 75) : Met l yM_starter wsM_starter ({ frames := 2, cells := 0, slots := 0, locals := 43 }) (va_Pc [.ref (ad 0), .int (iv i)] (jPre (dC, dI) (jT cI cZ cG cR) (pM cI cZ cG cR ad th tb fi se lf ct ln tx kl kp fl fo ol ot pl ky nu yk yn lc fw sd lw od) sz)) (va_Qi (fun (r0 : Int32) (u : Int) => r0 = iv u ∧ (-1 ≤ u ∧ u < i ∧ (∀ j, u < j → j < i → 0 < rkM tb (fo j)) ∧ (0 ≤ u → rkM tb (fo u) = 0))) (fun u => jEnd (dC, dI) (jT cI cZ cG cR) (va_A (pM cI cZ cG cR ad th tb fi se lf ct ln tx kl kp fl fo ol ot pl ky nu yk yn lc fw sd lw od) sz) (pM cI cZ cG cR ad th tb fi se lf ct ln tx kl kp fl fo ol ot pl ky nu yk yn lc fw sd lw od)) (va_A (pM cI cZ cG cR ad th tb fi se lf ct ln tx kl kp fl fo ol ot pl ky nu yk yn lc fw sd lw od) sz)) 0 0 (va_A (pM cI cZ cG cR ad th tb fi se lf ct ln tx kl kp fl fo ol ot pl ky nu yk yn lc fw sd lw od) sz) := by
  refine jv_mi (cc := cM_starter) (maxL := 3) (by decide) rfl (Nat.le_of_ble_eq_true rfl) ?_
  intro p0 e0 s0 m0 a0 b0 t0 c0 R0 Q0 A0 ls gX gB hts hown hml hRf hRl hA hK hret hl hP hD hS
  have hown : s0.vm.findClass "TextPipelineModel" = some m0.cls := hown
  have hw0 : ∀ w ∈ WS0, w.before a0 s0 = true := fun w h => hts w (List.mem_cons_of_mem _ h)
  have hl : lv_has ls 3 [(0, .ref (ad 0)), (1, .int (iv i))] := hl
  have hRf : 2 ≤ R0.frames := hRf
  have hRl : 43 ≤ R0.locals := hRl
  refine lv_iload_n (pc := 0) gX gB dM_starter_0 rfl (lv_at hl 1 rfl) ?_
  refine lv_iconst (pc := 1) (v := iv 1) gX gB dM_starter_1 rfl ?_
  refine jv_isub (pc := 2) (x := i) (y := 1) gX gB dM_starter_2 ?_
  refine lv_istore_n (pc := 3) (lv' := [(2, .int (iv (i - 1))), (0, .ref (ad 0)), (1, .int (iv i))]) gX gB dM_starter_3 rfl hl (by decide) rfl (fun ls hl => ?_)
  have cut4 : ∀ (n0 : Nat) (s : Int) (ls : Array Slot) (H : Heap) (locs : List Loc), (-1 ≤ s ∧ s < i) → (∀ j, s < j → j < i → 0 < rkM tb (fo j)) → ((s + 1 : Int).toNat < n0) → lv_has ls 3 [(0, .ref (ad 0)), (1, .int (iv i)), (2, .int (iv s))] → va_P (dC, dI) vwCl (pM cI cZ cG cR ad th tb fi se lf ct ln tx kl kp fl fo ol ot pl ky nu yk yn lc fw sd lw od) H → va_D A0 (pM cI cZ cG cR ad th tb fi se lf ct ln tx kl kp fl fo ol ot pl ky nu yk yn lc fw sd lw od) → va_S A0 s0.heap H locs → W p0 l e0 R0 s0 m0 a0 b0 t0 c0 H locs 0 0 Q0 (F0 m0 4 ls []) := by
    intro n0
    induction n0 with
    | zero => intro s ls H locs hs1 hq hm hl hP hD hS; exact absurd hm (Nat.not_lt_zero _)
    | succ n0 ih4 =>
      intro s ls H locs hs1 hq hm4 hl hP hD hS
      refine lv_iload_n (pc := 4) gX gB dM_starter_4 rfl (lv_at hl 2 rfl) ?_
      refine jv_if_lt (pc := 5) (tgt := 27) gX gB dM_starter_5 (by decide) (by omega) (fun h1 => ?_) (fun h1 => ?_)
      · skip
        refine lv_iload_n (pc := 27) gX gB dM_starter_27 rfl (lv_at hl 2 rfl) ?_
        exact hret _ (s) dM_starter_28 ⟨rfl, by exact ⟨by omega, by omega, hq, fun h => by omega⟩⟩ hP hD hS
      have hfs := hfo s (by omega) (by omega)
      refine lv_aload_n (pc := 8) gX gB dM_starter_8 rfl (lv_at hl 0 rfl) ?_
      refine lv_aload_n (pc := 9) gX gB dM_starter_9 rfl (lv_at hl 0 rfl) ?_
      refine va_get (pc := 10) (D := (dC, dI)) (ci := 5) (v := .ref (ad 11)) (C := RM) (T := TM) (N := 24) gX gB hw0 inM hown hK hP 0 rfl rfl 11 (by decide) (hw0 _ q662) (fun _ h9 => h9) rfl dM_starter_10 ?_
      refine lv_iload_n (pc := 13) gX gB dM_starter_13 rfl (lv_at hl 2 rfl) ?_
      refine jv_iald (pc := 14) gX gB hK hP 9 0 rfl rfl (by decide) (by omega) dM_starter_14 ?_
      refine jv_ri (pc := 15) (wr := []) (wn := fun u : Int => (pM cI cZ cG cR ad th tb fi se lf ct ln tx kl kp fl fo ol ot pl ky nu yk yn lc fw sd lw od)) (va_runV (rest := []) ⟨gX, gB, hml, hown, hw0⟩ (c_M_rank l dC dI cI cZ cG cR ad th tb fi se lf ct ln tx kl kp fl fo ol ot pl ky nu yk yn lc fw sd lw od _ (fo s) (by omega) (by omega)) (jcV hw0 kM_rank q776 rfl rfl ⟨Nat.le_trans (Nat.le_of_ble_eq_true rfl) hRf, Nat.le_trans (Nat.le_of_ble_eq_true rfl) hRl⟩) (jv_preV (ci := 5) (q0 := 0) hK hP hD [0, 1, 2, 3, 4, 5, 6, 7, 8, 9, 10, 11, 12, 13, 14, 15, 16, 17, 18] rfl (by decide) rfl rfl) rfl rfl hl.1 rfl (lv_room (Nat.le_of_ble_eq_true rfl)) dM_starter_15 ⟨Nat.zero_le _, Nat.zero_le _⟩) hP hD hS hA [0, 1, 2, 3, 4, 5, 6, 7, 8, 9, 10, 11, 12, 13, 14, 15, 16, 17, 18] [] [0, 1, 2, 3, 4, 5, 6, 7, 8, 9, 10, 11, 12, 13, 14, 15, 16, 17, 18] rfl rfl (by decide) (by decide) (by decide) (fun _ => rfl) (fun r0 u H locs hw15 hP hD hS => ?_)
      obtain ⟨r_15, hu⟩ : ∃ z, z = u := ⟨_, rfl⟩; subst hu
      obtain ⟨rfl, hw15⟩ := hw15
      refine jv_if_le (pc := 18) (tgt := 27) gX gB dM_starter_18 (by decide) (by omega) (fun h2 => ?_) (fun h2 => ?_)
      · skip
        refine lv_iload_n (pc := 27) gX gB dM_starter_27 rfl (lv_at hl 2 rfl) ?_
        exact hret _ (s) dM_starter_28 ⟨rfl, by exact ⟨by omega, by omega, hq, fun h => by omega⟩⟩ hP hD hS
      refine jv_idec (pc := 21) (k := 2) (x := s) (n := (-1)) (d := 1) (lv' := [(2, .int (iv (s - 1))), (0, .ref (ad 0)), (1, .int (iv i))]) gX gB dM_starter_21 (by decide) hl rfl (by decide) rfl (fun ls hl => ?_)
      refine lv_goto (pc := 24) (tgt := 4) gX gB dM_starter_24 (by decide) ?_
      exact ih4 (s - 1) _ _ _ (by omega) (by intro j h1 h2; by_cases e : j = s; (rw [e]; omega); exact hq j (by omega) h2) (by omega) (lv_sub hl [1, 2, 0] rfl) hP hD hS
  exact cut4 ((((i - 1) + 1 : Int).toNat) + 1) (i - 1) _ _ _ (by omega) (by intro j h1 h2; omega) (Nat.lt_succ_self _) (lv_sub hl [1, 2, 0] rfl) hP hD hS
set_option maxRecDepth 100000 in
set_option maxHeartbeats 1000000 in
theorem c_M_isFree (l : Launch) (dC : Nat → ClassId) (dI : Nat → Nat → Nat) (cI : ClassId) (cZ : ClassId) (cG : ClassId) (cR : ClassId) (ad : Nat → Nat) (th : Int) (tb : Int → Int) (fi : Int → Int) (se : Int → Int) (lf : Int → Int) (ct : Int → Int) (ln : Int) (tx : Int → Int) (kl : Int → Int) (kp : Int → Int) (fl : Int) (fo : Int → Int) (ol : Int) (ot : Int → Int) (pl : Int → Int) (ky : Int) (nu : Int → Int) (yk : Int) (yn : Int → Int) (lc : Int → Int) (fw : Int → Int) (sd : Int → Int) (lw : Int → Int) (od : Int → Int) (sz : Nat) (s : Int) (i : Int) (hT : TBK tb) (hi : -1 ≤ s ∧ s < i ∧ i < 170) (hfo : ∀ j, 0 ≤ j → j < i + 1 → 0 ≤ fo j ∧ fo j < 75) : Met l yM_isFree wsM_isFree ({ frames := 2, cells := 0, slots := 0, locals := 43 }) (va_Pc [.ref (ad 0), .int (iv s), .int (iv i)] (jPre (dC, dI) (jT cI cZ cG cR) (pM cI cZ cG cR ad th tb fi se lf ct ln tx kl kp fl fo ol ot pl ky nu yk yn lc fw sd lw od) sz)) (va_Qi (fun (r0 : Int32) (u : Int) => r0 = iv u ∧ ((u = 0 ∨ u = 1) ∧ (u = 1 ↔ (∀ j, s < j → j < i → rkM tb (fo j) < rkM tb (fo i))))) (fun u => jEnd (dC, dI) (jT cI cZ cG cR) (va_A (pM cI cZ cG cR ad th tb fi se lf ct ln tx kl kp fl fo ol ot pl ky nu yk yn lc fw sd lw od) sz) (pM cI cZ cG cR ad th tb fi se lf ct ln tx kl kp fl fo ol ot pl ky nu yk yn lc fw sd lw od)) (va_A (pM cI cZ cG cR ad th tb fi se lf ct ln tx kl kp fl fo ol ot pl ky nu yk yn lc fw sd lw od) sz)) 0 0 (va_A (pM cI cZ cG cR ad th tb fi se lf ct ln tx kl kp fl fo ol ot pl ky nu yk yn lc fw sd lw od) sz) := by
  refine jv_mz (cc := cM_isFree) (maxL := 5) (by decide) rfl (Nat.le_of_ble_eq_true rfl) ?_
  intro p0 e0 s0 m0 a0 b0 t0 c0 R0 Q0 A0 ls gX gB hts hown hml hRf hRl hA hK hret hl hP hD hS
  have hown : s0.vm.findClass "TextPipelineModel" = some m0.cls := hown
  have hw0 : ∀ w ∈ WS0, w.before a0 s0 = true := fun w h => hts w (List.mem_cons_of_mem _ h)
  have hl : lv_has ls 5 [(0, .ref (ad 0)), (1, .int (iv s)), (2, .int (iv i))] := hl
  have hRf : 2 ≤ R0.frames := hRf
  have hRl : 43 ≤ R0.locals := hRl
  refine lv_iconst (pc := 0) (v := iv 1) gX gB dM_isFree_0 rfl ?_
  refine lv_istore_n (pc := 1) (lv' := [(3, .int (iv 1)), (0, .ref (ad 0)), (1, .int (iv s)), (2, .int (iv i))]) gX gB dM_isFree_1 rfl hl (by decide) rfl (fun ls hl => ?_)
  refine lv_iload_n (pc := 2) gX gB dM_isFree_2 rfl (lv_at hl 2 rfl) ?_
  refine lv_iconst (pc := 3) (v := iv 1) gX gB dM_isFree_3 rfl ?_
  refine jv_iadd (pc := 4) (x := s) (y := 1) gX gB dM_isFree_4 ?_
  refine lv_istore (pc := 5) (lv' := [(4, .int (iv (s + 1))), (3, .int (iv 1)), (0, .ref (ad 0)), (1, .int (iv s)), (2, .int (iv i))]) gX gB dM_isFree_5 hl (by decide) rfl (fun ls hl => ?_)
  have cut7 : ∀ (n0 : Nat) (fr : Int) (k : Int) (ls : Array Slot) (H : Heap) (locs : List Loc), (s < k ∧ k ≤ i) → (fr = 0 ∨ fr = 1) → (fr = 1 ↔ ∀ j, s < j → j < k → rkM tb (fo j) < rkM tb (fo i)) → ((i - k : Int).toNat < n0) → lv_has ls 5 [(0, .ref (ad 0)), (1, .int (iv s)), (2, .int (iv i)), (3, .int (iv fr)), (4, .int (iv k))] → va_P (dC, dI) vwCl (pM cI cZ cG cR ad th tb fi se lf ct ln tx kl kp fl fo ol ot pl ky nu yk yn lc fw sd lw od) H → va_D A0 (pM cI cZ cG cR ad th tb fi se lf ct ln tx kl kp fl fo ol ot pl ky nu yk yn lc fw sd lw od) → va_S A0 s0.heap H locs → W p0 l e0 R0 s0 m0 a0 b0 t0 c0 H locs 0 0 Q0 (F0 m0 7 ls []) := by
    intro n0
    induction n0 with
    | zero => intro fr k ls H locs hk hf hq hm hl hP hD hS; exact absurd hm (Nat.not_lt_zero _)
    | succ n0 ih7 =>
      intro fr k ls H locs hk hf hq hm7 hl hP hD hS
      refine lv_iload (pc := 7) gX gB dM_isFree_7 (lv_at hl 4 rfl) ?_
      refine lv_iload_n (pc := 9) gX gB dM_isFree_9 rfl (lv_at hl 2 rfl) ?_
      refine jv_icmp_ge (pc := 10) (tgt := 53) gX gB dM_isFree_10 (by decide) (by omega) (by omega) (fun h1 => ?_) (fun h1 => ?_)
      · skip
        refine lv_iload_n (pc := 53) gX gB dM_isFree_53 rfl (lv_at hl 3 rfl) ?_
        exact hret _ (fr) dM_isFree_54 (by rcases hf with rfl | rfl; exact Or.inl rfl; exact Or.inr rfl) ⟨rfl, by refine ⟨hf, ?_⟩; rw [hq, show k = i by omega]⟩ hP hD hS
      have hfk := hfo k (by omega) (by omega)
      have hfi := hfo i (by omega) (by omega)
      have cut46 : ∀ (x : Int) (ls : Array Slot) (H : Heap) (locs : List Loc), (x = 0 ∨ x = 1) → (x = 1 ↔ (fr = 1 ∧ rkM tb (fo k) < rkM tb (fo i))) → lv_has ls 5 [(0, .ref (ad 0)), (1, .int (iv s)), (2, .int (iv i)), (3, .int (iv fr)), (4, .int (iv k))] → va_P (dC, dI) vwCl (pM cI cZ cG cR ad th tb fi se lf ct ln tx kl kp fl fo ol ot pl ky nu yk yn lc fw sd lw od) H → va_D A0 (pM cI cZ cG cR ad th tb fi se lf ct ln tx kl kp fl fo ol ot pl ky nu yk yn lc fw sd lw od) → va_S A0 s0.heap H locs → W p0 l e0 R0 s0 m0 a0 b0 t0 c0 H locs 0 0 Q0 (F0 m0 46 ls [.int (iv x)]) := by
        intro x ls H locs hx0 hx1 hl hP hD hS
        refine lv_istore_n (pc := 46) (lv' := [(3, .int (iv x)), (0, .ref (ad 0)), (1, .int (iv s)), (2, .int (iv i)), (4, .int (iv k))]) gX gB dM_isFree_46 rfl hl (by decide) rfl (fun ls hl => ?_)
        refine jv_iinc (pc := 47) (k := 4) (x := k) (n := 1) (lv' := [(4, .int (iv (k + 1))), (3, .int (iv x)), (0, .ref (ad 0)), (1, .int (iv s)), (2, .int (iv i))]) gX gB dM_isFree_47 hl rfl (by decide) rfl (fun ls hl => ?_)
        refine lv_goto (pc := 50) (tgt := 7) gX gB dM_isFree_50 (by decide) ?_
        exact ih7 x (k + 1) _ _ _ (by omega) (by omega) (by rw [hx1, hq]; exact ⟨fun h j p q => by by_cases e : j = k; (rw [e]; exact h.2); exact h.1 j p (by omega), fun h => ⟨fun j p q => h j p (by omega), h k (by omega) (by omega)⟩⟩) (by omega) (lv_sub hl [2, 3, 4, 1, 0] rfl) hP hD hS
      refine lv_iload_n (pc := 13) gX gB dM_isFree_13 rfl (lv_at hl 3 rfl) ?_
      refine jv_if_eq (pc := 14) (tgt := 45) gX gB dM_isFree_14 (by decide) (by omega) (fun h2 => ?_) (fun h2 => ?_)
      · skip
        refine lv_iconst (pc := 45) (v := iv 0) gX gB dM_isFree_45 rfl ?_
        exact cut46 0 _ _ _ (by omega) (by omega) hl hP hD hS
      refine lv_aload_n (pc := 17) gX gB dM_isFree_17 rfl (lv_at hl 0 rfl) ?_
      refine lv_aload_n (pc := 18) gX gB dM_isFree_18 rfl (lv_at hl 0 rfl) ?_
      refine va_get (pc := 19) (D := (dC, dI)) (ci := 5) (v := .ref (ad 11)) (C := RM) (T := TM) (N := 24) gX gB hw0 inM hown hK hP 0 rfl rfl 11 (by decide) (hw0 _ q662) (fun _ h9 => h9) rfl dM_isFree_19 ?_
      refine lv_iload (pc := 22) gX gB dM_isFree_22 (lv_at hl 4 rfl) ?_
      refine jv_iald (pc := 24) gX gB hK hP 9 0 rfl rfl (by decide) (by omega) dM_isFree_24 ?_
      refine jv_ri (pc := 25) (wr := []) (wn := fun u : Int => (pM cI cZ cG cR ad th tb fi se lf ct ln tx kl kp fl fo ol ot pl ky nu yk yn lc fw sd lw od)) (va_runV (rest := []) ⟨gX, gB, hml, hown, hw0⟩ (c_M_rank l dC dI cI cZ cG cR ad th tb fi se lf ct ln tx kl kp fl fo ol ot pl ky nu yk yn lc fw sd lw od _ (fo k) (by omega) (by omega)) (jcV hw0 kM_rank q776 rfl rfl ⟨Nat.le_trans (Nat.le_of_ble_eq_true rfl) hRf, Nat.le_trans (Nat.le_of_ble_eq_true rfl) hRl⟩) (jv_preV (ci := 5) (q0 := 0) hK hP hD [0, 1, 2, 3, 4, 5, 6, 7, 8, 9, 10, 11, 12, 13, 14, 15, 16, 17, 18] rfl (by decide) rfl rfl) rfl rfl hl.1 rfl (lv_room (Nat.le_of_ble_eq_true rfl)) dM_isFree_25 ⟨Nat.zero_le _, Nat.zero_le _⟩) hP hD hS hA [0, 1, 2, 3, 4, 5, 6, 7, 8, 9, 10, 11, 12, 13, 14, 15, 16, 17, 18] [] [0, 1, 2, 3, 4, 5, 6, 7, 8, 9, 10, 11, 12, 13, 14, 15, 16, 17, 18] rfl rfl (by decide) (by decide) (by decide) (fun _ => rfl) (fun r0 u H locs hw25 hP hD hS => ?_)
      obtain ⟨r_25, hu⟩ : ∃ z, z = u := ⟨_, rfl⟩; subst hu
      obtain ⟨rfl, hw25⟩ := hw25
      refine lv_aload_n (pc := 28) gX gB dM_isFree_28 rfl (lv_at hl 0 rfl) ?_
      refine lv_aload_n (pc := 29) gX gB dM_isFree_29 rfl (lv_at hl 0 rfl) ?_
      refine va_get (pc := 30) (D := (dC, dI)) (ci := 5) (v := .ref (ad 11)) (C := RM) (T := TM) (N := 24) gX gB hw0 inM hown hK hP 0 rfl rfl 11 (by decide) (hw0 _ q662) (fun _ h9 => h9) rfl dM_isFree_30 ?_
      refine lv_iload_n (pc := 33) gX gB dM_isFree_33 rfl (lv_at hl 2 rfl) ?_
      refine jv_iald (pc := 34) gX gB hK hP 9 0 rfl rfl (by decide) (by omega) dM_isFree_34 ?_
      refine jv_ri (pc := 35) (wr := []) (wn := fun u : Int => (pM cI cZ cG cR ad th tb fi se lf ct ln tx kl kp fl fo ol ot pl ky nu yk yn lc fw sd lw od)) (va_runV (rest := [.int (iv r_25)]) ⟨gX, gB, hml, hown, hw0⟩ (c_M_rank l dC dI cI cZ cG cR ad th tb fi se lf ct ln tx kl kp fl fo ol ot pl ky nu yk yn lc fw sd lw od _ (fo i) (by omega) (by omega)) (jcV hw0 kM_rank q776 rfl rfl ⟨Nat.le_trans (Nat.le_of_ble_eq_true rfl) hRf, Nat.le_trans (Nat.le_of_ble_eq_true rfl) hRl⟩) (jv_preV (ci := 5) (q0 := 0) hK hP hD [0, 1, 2, 3, 4, 5, 6, 7, 8, 9, 10, 11, 12, 13, 14, 15, 16, 17, 18] rfl (by decide) rfl rfl) rfl rfl hl.1 rfl (lv_room (Nat.le_of_ble_eq_true rfl)) dM_isFree_35 ⟨Nat.zero_le _, Nat.zero_le _⟩) hP hD hS hA [0, 1, 2, 3, 4, 5, 6, 7, 8, 9, 10, 11, 12, 13, 14, 15, 16, 17, 18] [] [0, 1, 2, 3, 4, 5, 6, 7, 8, 9, 10, 11, 12, 13, 14, 15, 16, 17, 18] rfl rfl (by decide) (by decide) (by decide) (fun _ => rfl) (fun r0 u H locs hw35 hP hD hS => ?_)
      obtain ⟨r_35, hu⟩ : ∃ z, z = u := ⟨_, rfl⟩; subst hu
      obtain ⟨rfl, hw35⟩ := hw35
      refine jv_icmp_ge (pc := 38) (tgt := 45) gX gB dM_isFree_38 (by decide) (by omega) (by omega) (fun h3 => ?_) (fun h3 => ?_)
      · skip
        refine lv_iconst (pc := 45) (v := iv 0) gX gB dM_isFree_45 rfl ?_
        exact cut46 0 _ _ _ (by omega) (by omega) hl hP hD hS
      refine lv_iconst (pc := 41) (v := iv 1) gX gB dM_isFree_41 rfl ?_
      refine lv_goto (pc := 42) (tgt := 46) gX gB dM_isFree_42 (by decide) ?_
      exact cut46 1 _ _ _ (by omega) (by omega) hl hP hD hS
  exact cut7 (((i - (s + 1) : Int).toNat) + 1) 1 (s + 1) _ _ _ (by omega) (by omega) (by exact ⟨fun _ j h1 h2 => by omega, fun _ => rfl⟩) (Nat.lt_succ_self _) (lv_sub hl [2, 3, 4, 1, 0] rfl) hP hD hS
set_option maxRecDepth 100000 in
set_option maxHeartbeats 1000000 in
theorem c_M_joinForm (l : Launch) (dC : Nat → ClassId) (dI : Nat → Nat → Nat) (cI : ClassId) (cZ : ClassId) (cG : ClassId) (cR : ClassId) (ad : Nat → Nat) (th : Int) (tb : Int → Int) (fi : Int → Int) (se : Int → Int) (lf : Int → Int) (ct : Int → Int) (ln : Int) (tx : Int → Int) (kl : Int → Int) (kp : Int → Int) (fl : Int) (fo : Int → Int) (ol : Int) (ot : Int → Int) (pl : Int → Int) (ky : Int) (nu : Int → Int) (yk : Int) (yn : Int → Int) (lc : Int → Int) (fw : Int → Int) (sd : Int → Int) (lw : Int → Int) (od : Int → Int) (sz : Nat) (hT : TBK tb) (hv : vpt fi se) (hlf : ∀ j, 0 ≤ j → j < 40 → lf j = 0 ∨ lf j = 1) (hf : 0 ≤ fl ∧ fl ≤ 160) (hfo : ∀ j, 0 ≤ j → j < fl → 0 ≤ fo j ∧ fo j < 75) : Met l yM_joinForm wsM_joinForm ({ frames := 3, cells := 0, slots := 0, locals := 67 }) (va_Pc [.ref (ad 0)] (jPre (dC, dI) (jT cI cZ cG cR) (pM cI cZ cG cR ad th tb fi se lf ct ln tx kl kp fl fo ol ot pl ky nu yk yn lc fw sd lw od) sz)) (va_Qv (fun u : Int × (Int → Int) => 0 ≤ u.1 ∧ u.1 ≤ fl ∧ rsg u.2 u.1.toNat = jnL (rkM tb) (jnM tb fi se lf) [] (sg fo 0 fl.toNat) ∧ (∀ j, 0 ≤ j → j < u.1 → 0 ≤ u.2 j ∧ u.2 j < 75)) (fun u => jEnd (dC, dI) (jT cI cZ cG cR) (va_A (pM cI cZ cG cR ad th tb fi se lf ct ln tx kl kp fl fo ol ot pl ky nu yk yn lc fw sd lw od) sz) (pM cI cZ cG cR ad th tb fi se lf ct ln tx kl kp u.1 u.2 ol ot pl ky nu yk yn lc fw sd lw od)) (va_A (pM cI cZ cG cR ad th tb fi se lf ct ln tx kl kp fl fo ol ot pl ky nu yk yn lc fw sd lw od) sz)) 0 0 (va_A (pM cI cZ cG cR ad th tb fi se lf ct ln tx kl kp fl fo ol ot pl ky nu yk yn lc fw sd lw od) sz) := by
  refine jv_mv (cc := cM_joinForm) (maxL := 5) (by decide) rfl (Nat.le_of_ble_eq_true rfl) ?_
  intro p0 e0 s0 m0 a0 b0 t0 c0 R0 Q0 A0 ls gX gB hts hown hml hRf hRl hA hK hret hl hP hD hS
  have hown : s0.vm.findClass "TextPipelineModel" = some m0.cls := hown
  have hw0 : ∀ w ∈ WS0, w.before a0 s0 = true := fun w h => hts w (List.mem_cons_of_mem _ h)
  have hl : lv_has ls 5 [(0, .ref (ad 0))] := hl
  have hRf : 3 ≤ R0.frames := hRf
  have hRl : 67 ≤ R0.locals := hRl
  refine lv_iconst (pc := 0) (v := iv 1) gX gB dM_joinForm_0 rfl ?_
  refine lv_istore_n (pc := 1) (lv' := [(1, .int (iv 1)), (0, .ref (ad 0))]) gX gB dM_joinForm_1 rfl hl (by decide) rfl (fun ls hl => ?_)
  have cut2 : ∀ (n0 : Nat) (i : Int) (fl1 : Int) (fo1 : Int → Int) (ls : Array Slot) (H : Heap) (locs : List Loc), (0 ≤ fl1 ∧ fl1 ≤ fl ∧ 1 ≤ i ∧ (i ≤ fl1 ∨ fl1 = 0 ∧ i = 1)) → (∀ j, 0 ≤ j → j < fl1 → 0 ≤ fo1 j ∧ fo1 j < 75) → (jfI (rkM tb) (jnM tb fi se lf) fl fo i fl1 fo1) → ((2 * fl1 - i + 2 : Int).toNat < n0) → lv_has ls 5 [(0, .ref (ad 0)), (1, .int (iv i))] → va_P (dC, dI) vwCl (pM cI cZ cG cR ad th tb fi se lf ct ln tx kl kp fl1 fo1 ol ot pl ky nu yk yn lc fw sd lw od) H → va_D A0 (pM cI cZ cG cR ad th tb fi se lf ct ln tx kl kp fl1 fo1 ol ot pl ky nu yk yn lc fw sd lw od) → va_S A0 s0.heap H locs → W p0 l e0 R0 s0 m0 a0 b0 t0 c0 H locs 0 0 Q0 (F0 m0 2 ls []) := by
    intro n0
    induction n0 with
    | zero => intro i fl1 fo1 ls H locs hb2 hg hI hm hl hP hD hS; exact absurd hm (Nat.not_lt_zero _)
    | succ n0 ih2 =>
      intro i fl1 fo1 ls H locs hb2 hg hI hm2 hl hP hD hS
      refine lv_iload_n (pc := 2) gX gB dM_joinForm_2 rfl (lv_at hl 1 rfl) ?_
      refine lv_aload_n (pc := 3) gX gB dM_joinForm_3 rfl (lv_at hl 0 rfl) ?_
      refine va_get (pc := 4) (D := (dC, dI)) (ci := 5) (v := .int (iv fl1)) (C := RM) (T := TM) (N := 24) gX gB hw0 inM hown hK hP 0 rfl rfl 10 (by decide) (hw0 _ q661) (fun _ h9 => h9) rfl dM_joinForm_4 ?_
      refine jv_icmp_ge (pc := 7) (tgt := 114) gX gB dM_joinForm_7 (by decide) (by omega) (by omega) (fun h1 => ?_) (fun h1 => ?_)
      · skip
        exact hret (fl1, fo1) dM_joinForm_114 (by first | (dsimp only; obtain ⟨z1, z2, z3⟩ := jf_end hI (by omega); exact ⟨z1, z2, z3, hg⟩) | (obtain ⟨z1, z2, z3⟩ := jf_end hI (by omega); exact ⟨z1, z2, z3, hg⟩)) hP hD hS
      have hgi := hg i (by omega) (by omega)
      refine lv_aload_n (pc := 10) gX gB dM_joinForm_10 rfl (lv_at hl 0 rfl) ?_
      refine lv_iload_n (pc := 11) gX gB dM_joinForm_11 rfl (lv_at hl 1 rfl) ?_
      refine jv_ri (pc := 12) (wr := []) (wn := fun u : Int => (pM cI cZ cG cR ad th tb fi se lf ct ln tx kl kp fl1 fo1 ol ot pl ky nu yk yn lc fw sd lw od)) (va_runV (rest := []) ⟨gX, gB, hml, hown, hw0⟩ (c_M_starter l dC dI cI cZ cG cR ad th tb fi se lf ct ln tx kl kp fl1 fo1 ol ot pl ky nu yk yn lc fw sd lw od _ i (by omega) (by omega) (by exact fun j a b => hg j a (by omega))) (jcV hw0 kM_starter q788 rfl rfl ⟨Nat.le_trans (Nat.le_of_ble_eq_true rfl) hRf, Nat.le_trans (Nat.le_of_ble_eq_true rfl) hRl⟩) (jv_preV (ci := 5) (q0 := 0) hK hP hD [0, 1, 2, 3, 4, 5, 6, 7, 8, 9, 10, 11, 12, 13, 14, 15, 16, 17, 18] rfl (by decide) rfl rfl) rfl rfl hl.1 rfl (lv_room (Nat.le_of_ble_eq_true rfl)) dM_joinForm_12 ⟨Nat.zero_le _, Nat.zero_le _⟩) hP hD hS hA [0, 1, 2, 3, 4, 5, 6, 7, 8, 9, 10, 11, 12, 13, 14, 15, 16, 17, 18] [] [0, 1, 2, 3, 4, 5, 6, 7, 8, 9, 10, 11, 12, 13, 14, 15, 16, 17, 18] rfl rfl (by decide) (by decide) (by decide) (fun _ => rfl) (fun r0 u H locs hw12 hP hD hS => ?_)
      obtain ⟨r_12, hu⟩ : ∃ z, z = u := ⟨_, rfl⟩; subst hu
      obtain ⟨rfl, hw12⟩ := hw12
      refine lv_istore_n (pc := 15) (lv' := [(2, .int (iv r_12)), (0, .ref (ad 0)), (1, .int (iv i))]) gX gB dM_joinForm_15 rfl hl (by decide) rfl (fun ls hl => ?_)
      obtain ⟨hs1, hs2, hs3, hs4⟩ := hw12
      have cut108 : ∀ (ls : Array Slot) (H : Heap) (locs : List Loc), (jgo (rkM tb) (jnM tb fi se lf) (fo1 i) (rsg fo1 i.toNat) = none) → lv_has ls 5 [(0, .ref (ad 0)), (1, .int (iv i))] → va_P (dC, dI) vwCl (pM cI cZ cG cR ad th tb fi se lf ct ln tx kl kp fl1 fo1 ol ot pl ky nu yk yn lc fw sd lw od) H → va_D A0 (pM cI cZ cG cR ad th tb fi se lf ct ln tx kl kp fl1 fo1 ol ot pl ky nu yk yn lc fw sd lw od) → va_S A0 s0.heap H locs → W p0 l e0 R0 s0 m0 a0 b0 t0 c0 H locs 0 0 Q0 (F0 m0 108 ls []) := by
        intro  ls H locs hno hl hP hD hS
        refine jv_iinc (pc := 108) (k := 1) (x := i) (n := 1) (lv' := [(1, .int (iv (i + 1))), (0, .ref (ad 0))]) gX gB dM_joinForm_108 hl rfl (by decide) rfl (fun ls hl => ?_)
        refine lv_goto (pc := 111) (tgt := 2) gX gB dM_joinForm_111 (by decide) ?_
        exact ih2 (i + 1) fl1 fo1 _ _ _ (by omega) (by intro j a b; first | exact hg j a b | skip; by_cases e : j < i; (rw [hA j e, efo2]; by_cases e2 : j = r_12; (rw [uI_e e2]; omega); (rw [uI_n e2]; exact hg j a (by omega))); (rw [hB j (by omega) (by omega), efo2, uI_n (by omega)]; exact hg (j + 1) (by omega) (by omega))) (by first | exact jf_no hI (by omega) hno | refine jf_yes (s := r_12) hI (by omega) hsome (by omega) (fun j a => by rw [hA j a, efo2]) (fun j a b => by rw [hB j a (by omega), efo2])) (by omega) (lv_sub hl [1, 0] rfl) hP hD hS
      have cut40 : ∀ (jc : Int) (ls : Array Slot) (H : Heap) (locs : List Loc), ((r_12 < 0 ∧ jc = -1) ∨ (0 ≤ r_12 ∧ jc = jnM tb fi se lf (fo1 r_12) (fo1 i) ∧ -1 ≤ jc ∧ jc < 75)) → lv_has ls 5 [(0, .ref (ad 0)), (1, .int (iv i)), (2, .int (iv r_12))] → va_P (dC, dI) vwCl (pM cI cZ cG cR ad th tb fi se lf ct ln tx kl kp fl1 fo1 ol ot pl ky nu yk yn lc fw sd lw od) H → va_D A0 (pM cI cZ cG cR ad th tb fi se lf ct ln tx kl kp fl1 fo1 ol ot pl ky nu yk yn lc fw sd lw od) → va_S A0 s0.heap H locs → W p0 l e0 R0 s0 m0 a0 b0 t0 c0 H locs 0 0 Q0 (F0 m0 40 ls [.int (iv jc)]) := by
        intro jc ls H locs hjc hl hP hD hS
        refine lv_istore_n (pc := 40) (lv' := [(3, .int (iv jc)), (0, .ref (ad 0)), (1, .int (iv i)), (2, .int (iv r_12))]) gX gB dM_joinForm_40 rfl hl (by decide) rfl (fun ls hl => ?_)
        refine lv_iload_n (pc := 41) gX gB dM_joinForm_41 rfl (lv_at hl 0 rfl) ?_
        refine jv_if_lt (pc := 42) (tgt := 108) gX gB dM_joinForm_42 (by decide) (by omega) (fun h2 => ?_) (fun h2 => ?_)
        · skip
          exact cut108  _ _ _ (by rcases hjc with ⟨z1, z2⟩ | ⟨z1, z2, z3, z4⟩; (exact jgo_n1 i.toNat (fun j a b => hs3 j (by omega) (by omega))); (exact jgo_n2 z1 (hs4 z1) i.toNat (by omega) (fun j a b => hs3 j a (by omega)) (Or.inl (by omega)))) (lv_sub hl [1, 2] rfl) hP hD hS
        refine lv_aload_n (pc := 45) gX gB dM_joinForm_45 rfl (lv_at hl 1 rfl) ?_
        refine lv_iload_n (pc := 46) gX gB dM_joinForm_46 rfl (lv_at hl 3 rfl) ?_
        refine lv_iload_n (pc := 47) gX gB dM_joinForm_47 rfl (lv_at hl 2 rfl) ?_
        refine jv_ri (pc := 48) (wr := []) (wn := fun u : Int => (pM cI cZ cG cR ad th tb fi se lf ct ln tx kl kp fl1 fo1 ol ot pl ky nu yk yn lc fw sd lw od)) (va_runV (rest := []) ⟨gX, gB, hml, hown, hw0⟩ (c_M_isFree l dC dI cI cZ cG cR ad th tb fi se lf ct ln tx kl kp fl1 fo1 ol ot pl ky nu yk yn lc fw sd lw od _ r_12 i (by omega) (by omega) (by exact fun j a b => hg j a (by omega))) (jcV hw0 kM_isFree q812 rfl rfl ⟨Nat.le_trans (Nat.le_of_ble_eq_true rfl) hRf, Nat.le_trans (Nat.le_of_ble_eq_true rfl) hRl⟩) (jv_preV (ci := 5) (q0 := 0) hK hP hD [0, 1, 2, 3, 4, 5, 6, 7, 8, 9, 10, 11, 12, 13, 14, 15, 16, 17, 18] rfl (by decide) rfl rfl) rfl rfl hl.1 rfl (lv_room (Nat.le_of_ble_eq_true rfl)) dM_joinForm_48 ⟨Nat.zero_le _, Nat.zero_le _⟩) hP hD hS hA [0, 1, 2, 3, 4, 5, 6, 7, 8, 9, 10, 11, 12, 13, 14, 15, 16, 17, 18] [] [0, 1, 2, 3, 4, 5, 6, 7, 8, 9, 10, 11, 12, 13, 14, 15, 16, 17, 18] rfl rfl (by decide) (by decide) (by decide) (fun _ => rfl) (fun r0 u H locs hw48 hP hD hS => ?_)
        obtain ⟨r_48, hu⟩ : ∃ z, z = u := ⟨_, rfl⟩; subst hu
        obtain ⟨rfl, hw48⟩ := hw48
        refine jv_if_eq (pc := 51) (tgt := 108) gX gB dM_joinForm_51 (by decide) (by omega) (fun h3 => ?_) (fun h3 => ?_)
        · skip
          exact cut108  _ _ _ (by have hr0 : 0 ≤ r_12 := (by omega); exact jgo_n2 hr0 (hs4 hr0) i.toNat (by omega) (fun j a b => hs3 j a (by omega)) (Or.inr (fun z => by have := hw48.2.mpr (fun j a b => z j a (by omega)); omega))) (lv_sub hl [1, 2] rfl) hP hD hS
        have hr0 : 0 ≤ r_12 := by omega
        have hgs := hg r_12 (by omega) (by omega)
        have hjeq : jc = jnM tb fi se lf (fo1 r_12) (fo1 i) := by omega
        have hfree := hw48.2.mp (by omega)
        have hsome : jgo (rkM tb) (jnM tb fi se lf) (fo1 i) (rsg fo1 i.toNat) = some (rsg (uI fo1 r_12 (jnM tb fi se lf (fo1 r_12) (fo1 i))) i.toNat) := jgo_some hr0 (hs4 hr0) (by omega) i.toNat (by omega) (fun j a b => ⟨hs3 j a (by omega), hfree j a (by omega)⟩)
        refine lv_aload_n (pc := 54) gX gB dM_joinForm_54 rfl (lv_at hl 1 rfl) ?_
        refine va_get (pc := 55) (D := (dC, dI)) (ci := 5) (v := .ref (ad 11)) (C := RM) (T := TM) (N := 24) gX gB hw0 inM hown hK hP 0 rfl rfl 11 (by decide) (hw0 _ q662) (fun _ h9 => h9) rfl dM_joinForm_55 ?_
        refine lv_iload_n (pc := 58) gX gB dM_joinForm_58 rfl (lv_at hl 3 rfl) ?_
        refine lv_iload_n (pc := 59) gX gB dM_joinForm_59 rfl (lv_at hl 0 rfl) ?_
        refine jv_iast (pc := 60) (ws' := (pM cI cZ cG cR ad th tb fi se lf ct ln tx kl kp fl1 (uI fo1 r_12 jc) ol ot pl ky nu yk yn lc fw sd lw od)) gX gB hK hP hD hS 9 0 rfl rfl (by decide) (by omega) dM_joinForm_60 rfl (fun H locs hP hD hS => ?_)
        obtain ⟨fo2, efo2⟩ : ∃ z, z = (uI fo1 r_12 jc) := ⟨_, rfl⟩
        rw [← efo2] at hP hD
        rw [hjeq] at efo2
        refine lv_aload_n (pc := 61) gX gB dM_joinForm_61 rfl (lv_at hl 1 rfl) ?_
        refine lv_dup (pc := 62) gX gB dM_joinForm_62 rfl ?_
        refine va_get (pc := 63) (D := (dC, dI)) (ci := 5) (v := .int (iv fl1)) (C := RM) (T := TM) (N := 24) gX gB hw0 inM hown hK hP 0 rfl rfl 10 (by decide) (hw0 _ q661) (fun _ h9 => h9) rfl dM_joinForm_63 ?_
        refine lv_iconst (pc := 66) (v := iv 1) gX gB dM_joinForm_66 rfl ?_
        refine jv_isub (pc := 67) (x := fl1) (y := 1) gX gB dM_joinForm_67 ?_
        refine jv_put (pc := 68) (D := (dC, dI)) (ci := 5) (v := .int (iv (fl1 - 1))) (ty := .int) (C := RM) (T := TM) (N := 24) (ws' := (pM cI cZ cG cR ad th tb fi se lf ct ln tx kl kp (fl1 - 1) fo2 ol ot pl ky nu yk yn lc fw sd lw od)) gX gB hw0 inM tyM tyM_ok nmM hown hK hP hD hS 0 rfl rfl 10 (by decide) (hw0 _ q661) (fun _ h9 => h9) rfl (by decide +kernel) rfl rfl (Nat.le_of_ble_eq_true rfl) dM_joinForm_68 rfl (fun H locs hP hD hS => ?_)
        refine lv_iload_n (pc := 71) gX gB dM_joinForm_71 rfl (lv_at hl 2 rfl) ?_
        refine lv_istore (pc := 72) (lv' := [(4, .int (iv i)), (3, .int (iv jc)), (0, .ref (ad 0)), (1, .int (iv i)), (2, .int (iv r_12))]) gX gB dM_joinForm_72 hl (by decide) rfl (fun ls hl => ?_)
        have cut74 : ∀ (n0 : Nat) (k : Int) (fo3 : Int → Int) (ls : Array Slot) (H : Heap) (locs : List Loc), (i ≤ k ∧ k ≤ fl1 - 1) → (∀ j, j < i → fo3 j = fo2 j) → (∀ j, i ≤ j → j < k → fo3 j = fo2 (j + 1)) → (∀ j, k ≤ j → fo3 j = fo2 j) → ((fl1 - k : Int).toNat < n0) → lv_has ls 5 [(0, .ref (ad 0)), (1, .int (iv i)), (4, .int (iv k))] → va_P (dC, dI) vwCl (pM cI cZ cG cR ad th tb fi se lf ct ln tx kl kp (fl1 - 1) fo3 ol ot pl ky nu yk yn lc fw sd lw od) H → va_D A0 (pM cI cZ cG cR ad th tb fi se lf ct ln tx kl kp (fl1 - 1) fo3 ol ot pl ky nu yk yn lc fw sd lw od) → va_S A0 s0.heap H locs → W p0 l e0 R0 s0 m0 a0 b0 t0 c0 H locs 0 0 Q0 (F0 m0 74 ls []) := by
          intro n0
          induction n0 with
          | zero => intro k fo3 ls H locs hk hA hB hC hm hl hP hD hS; exact absurd hm (Nat.not_lt_zero _)
          | succ n0 ih74 =>
            intro k fo3 ls H locs hk hA hB hC hm74 hl hP hD hS
            refine lv_iload (pc := 74) gX gB dM_joinForm_74 (lv_at hl 2 rfl) ?_
            refine lv_aload_n (pc := 76) gX gB dM_joinForm_76 rfl (lv_at hl 0 rfl) ?_
            refine va_get (pc := 77) (D := (dC, dI)) (ci := 5) (v := .int (iv (fl1 - 1))) (C := RM) (T := TM) (N := 24) gX gB hw0 inM hown hK hP 0 rfl rfl 10 (by decide) (hw0 _ q661) (fun _ h9 => h9) rfl dM_joinForm_77 ?_
            refine jv_icmp_ge (pc := 80) (tgt := 105) gX gB dM_joinForm_80 (by decide) (by omega) (by omega) (fun h4 => ?_) (fun h4 => ?_)
            · skip
              refine lv_goto (pc := 105) (tgt := 111) gX gB dM_joinForm_105 (by decide) ?_
              refine lv_goto (pc := 111) (tgt := 2) gX gB dM_joinForm_111 (by decide) ?_
              exact ih2 i (fl1 - 1) fo3 _ _ _ (by omega) (by intro j a b; first | exact hg j a b | skip; by_cases e : j < i; (rw [hA j e, efo2]; by_cases e2 : j = r_12; (rw [uI_e e2]; omega); (rw [uI_n e2]; exact hg j a (by omega))); (rw [hB j (by omega) (by omega), efo2, uI_n (by omega)]; exact hg (j + 1) (by omega) (by omega))) (by first | exact jf_no hI (by omega) hno | refine jf_yes (s := r_12) hI (by omega) hsome (by omega) (fun j a => by rw [hA j a, efo2]) (fun j a b => by rw [hB j a (by omega), efo2])) (by omega) (lv_sub hl [0, 1] rfl) hP hD hS
            refine lv_aload_n (pc := 83) gX gB dM_joinForm_83 rfl (lv_at hl 0 rfl) ?_
            refine va_get (pc := 84) (D := (dC, dI)) (ci := 5) (v := .ref (ad 11)) (C := RM) (T := TM) (N := 24) gX gB hw0 inM hown hK hP 0 rfl rfl 11 (by decide) (hw0 _ q662) (fun _ h9 => h9) rfl dM_joinForm_84 ?_
            refine lv_iload (pc := 87) gX gB dM_joinForm_87 (lv_at hl 2 rfl) ?_
            refine lv_aload_n (pc := 89) gX gB dM_joinForm_89 rfl (lv_at hl 0 rfl) ?_
            refine va_get (pc := 90) (D := (dC, dI)) (ci := 5) (v := .ref (ad 11)) (C := RM) (T := TM) (N := 24) gX gB hw0 inM hown hK hP 0 rfl rfl 11 (by decide) (hw0 _ q662) (fun _ h9 => h9) rfl dM_joinForm_90 ?_
            refine lv_iload (pc := 93) gX gB dM_joinForm_93 (lv_at hl 2 rfl) ?_
            refine lv_iconst (pc := 95) (v := iv 1) gX gB dM_joinForm_95 rfl ?_
            refine jv_iadd (pc := 96) (x := k) (y := 1) gX gB dM_joinForm_96 ?_
            refine jv_iald (pc := 97) gX gB hK hP 9 0 rfl rfl (by decide) (by omega) dM_joinForm_97 ?_
            refine jv_iast (pc := 98) (ws' := (pM cI cZ cG cR ad th tb fi se lf ct ln tx kl kp (fl1 - 1) (uI fo3 k (fo3 (k + 1))) ol ot pl ky nu yk yn lc fw sd lw od)) gX gB hK hP hD hS 9 0 rfl rfl (by decide) (by omega) dM_joinForm_98 rfl (fun H locs hP hD hS => ?_)
            refine jv_iinc (pc := 99) (k := 2) (x := k) (n := 1) (lv' := [(4, .int (iv (k + 1))), (0, .ref (ad 0)), (1, .int (iv i))]) gX gB dM_joinForm_99 hl rfl (by decide) rfl (fun ls hl => ?_)
            refine lv_goto (pc := 102) (tgt := 74) gX gB dM_joinForm_102 (by decide) ?_
            exact ih74 (k + 1) (uI fo3 k (fo3 (k + 1))) _ _ _ (by omega) (by intro j a; rw [uI_n (by omega)]; exact hA j a) (by intro j a b; by_cases e : j = k; (rw [uI_e e, e]; exact hC (k + 1) (by omega)); (rw [uI_n e]; exact hB j a (by omega))) (by intro j a; rw [uI_n (by omega)]; exact hC j (by omega)) (by omega) (lv_sub hl [1, 2, 0] rfl) hP hD hS
        exact cut74 (((fl1 - i : Int).toNat) + 1) i fo2 _ _ _ (by omega) (by exact fun j a => rfl) (by exact fun j a b => by omega) (by exact fun j a => rfl) (Nat.lt_succ_self _) (lv_sub hl [2, 3, 0] rfl) hP hD hS
      refine lv_iload_n (pc := 16) gX gB dM_joinForm_16 rfl (lv_at hl 0 rfl) ?_
      refine jv_if_ge (pc := 17) (tgt := 24) gX gB dM_joinForm_17 (by decide) (by omega) (fun h5 => ?_) (fun h5 => ?_)
      · skip
        have hgs := hg r_12 (by omega) (by omega)
        refine lv_aload_n (pc := 24) gX gB dM_joinForm_24 rfl (lv_at hl 1 rfl) ?_
        refine lv_aload_n (pc := 25) gX gB dM_joinForm_25 rfl (lv_at hl 1 rfl) ?_
        refine va_get (pc := 26) (D := (dC, dI)) (ci := 5) (v := .ref (ad 11)) (C := RM) (T := TM) (N := 24) gX gB hw0 inM hown hK hP 0 rfl rfl 11 (by decide) (hw0 _ q662) (fun _ h9 => h9) rfl dM_joinForm_26 ?_
        refine lv_iload_n (pc := 29) gX gB dM_joinForm_29 rfl (lv_at hl 0 rfl) ?_
        refine jv_iald (pc := 30) gX gB hK hP 9 0 rfl rfl (by decide) (by omega) dM_joinForm_30 ?_
        refine lv_aload_n (pc := 31) gX gB dM_joinForm_31 rfl (lv_at hl 1 rfl) ?_
        refine va_get (pc := 32) (D := (dC, dI)) (ci := 5) (v := .ref (ad 11)) (C := RM) (T := TM) (N := 24) gX gB hw0 inM hown hK hP 0 rfl rfl 11 (by decide) (hw0 _ q662) (fun _ h9 => h9) rfl dM_joinForm_32 ?_
        refine lv_iload_n (pc := 35) gX gB dM_joinForm_35 rfl (lv_at hl 2 rfl) ?_
        refine jv_iald (pc := 36) gX gB hK hP 9 0 rfl rfl (by decide) (by omega) dM_joinForm_36 ?_
        refine jv_ri (pc := 37) (wr := []) (wn := fun u : Int => (pM cI cZ cG cR ad th tb fi se lf ct ln tx kl kp fl1 fo1 ol ot pl ky nu yk yn lc fw sd lw od)) (va_runV (rest := []) ⟨gX, gB, hml, hown, hw0⟩ (c_M_joins l dC dI cI cZ cG cR ad th tb fi se lf ct ln tx kl kp fl1 fo1 ol ot pl ky nu yk yn lc fw sd lw od _ (fo1 r_12) (fo1 i) (by omega) (by omega) (by omega) (by omega) (by omega)) (jcV hw0 kM_joins q792 rfl rfl ⟨Nat.le_trans (Nat.le_of_ble_eq_true rfl) hRf, Nat.le_trans (Nat.le_of_ble_eq_true rfl) hRl⟩) (jv_preV (ci := 5) (q0 := 0) hK hP hD [0, 1, 2, 3, 4, 5, 6, 7, 8, 9, 10, 11, 12, 13, 14, 15, 16, 17, 18] rfl (by decide) rfl rfl) rfl rfl hl.1 rfl (lv_room (Nat.le_of_ble_eq_true rfl)) dM_joinForm_37 ⟨Nat.zero_le _, Nat.zero_le _⟩) hP hD hS hA [0, 1, 2, 3, 4, 5, 6, 7, 8, 9, 10, 11, 12, 13, 14, 15, 16, 17, 18] [] [0, 1, 2, 3, 4, 5, 6, 7, 8, 9, 10, 11, 12, 13, 14, 15, 16, 17, 18] rfl rfl (by decide) (by decide) (by decide) (fun _ => rfl) (fun r0 u H locs hw37 hP hD hS => ?_)
        obtain ⟨r_37, hu⟩ : ∃ z, z = u := ⟨_, rfl⟩; subst hu
        obtain ⟨rfl, hw37⟩ := hw37
        exact cut40 r_37 _ _ _ (by omega) (lv_sub hl [1, 2, 0] rfl) hP hD hS
      refine lv_iconst (pc := 20) (v := iv (-1)) gX gB dM_joinForm_20 rfl ?_
      refine lv_goto (pc := 21) (tgt := 40) gX gB dM_joinForm_21 (by decide) ?_
      exact cut40 (-1) _ _ _ (by omega) (lv_sub hl [1, 2, 0] rfl) hP hD hS
  exact cut2 (((2 * fl - 1 + 2 : Int).toNat) + 1) 1 fl fo _ _ _ (by omega) (by exact hfo) (by exact jf_0 hf.1) (Nat.lt_succ_self _) (lv_sub hl [1, 0] rfl) hP hD hS
