set_option maxRecDepth 100000 in
set_option maxHeartbeats 4000000 in
theorem c_M_findLevels (l : Launch) (dC : Nat → ClassId) (dI : Nat → Nat → Nat) (cI : ClassId) (cZ : ClassId) (cG : ClassId) (cR : ClassId) (ad : Nat → Nat) (th : Int) (tb : Int → Int) (fi : Int → Int) (se : Int → Int) (lf : Int → Int) (ct : Int → Int) (ln : Int) (tx : Int → Int) (kl : Int → Int) (kp : Int → Int) (fl : Int) (fo : Int → Int) (ol : Int) (ot : Int → Int) (pl : Int → Int) (ky : Int) (nu : Int → Int) (yk : Int) (yn : Int → Int) (lc : Int → Int) (fw : Int → Int) (sd : Int → Int) (lw : Int → Int) (od : Int → Int) (sz : Nat) (wt : Int) (hT : TBK tb) (hw9 : -2147483648 ≤ wt ∧ wt < 2147483648) (hl9 : 0 ≤ ln ∧ ln ≤ 40) (htx : ∀ j, 0 ≤ j → j < ln → 0 ≤ tx j ∧ tx j < 75) : Met l yM_findLevels wsM_findLevels ({ frames := 3, cells := 0, slots := 0, locals := 66 }) (va_Pc [.ref (ad 0), .int (iv wt)] (jPre (dC, dI) (jT cI cZ cG cR) (pM cI cZ cG cR ad th tb fi se lf ct ln tx kl kp fl fo ol ot pl ky nu yk yn lc fw sd lw od) sz)) (va_Qv (fun u : (Int → Int) × (Int → Int) => ∀ j, 0 ≤ j → j < ln → u.2 j = lvf (szM tb) tx ln wt j ∧ 0 ≤ u.2 j ∧ u.2 j ≤ 2) (fun u => jEnd (dC, dI) (jT cI cZ cG cR) (va_A (pM cI cZ cG cR ad th tb fi se lf ct ln tx kl kp fl fo ol ot pl ky nu yk yn lc fw sd lw od) sz) (pM cI cZ cG cR ad th tb fi se lf ct ln tx kl kp fl fo ol ot pl ky nu yk yn lc fw u.1 u.2 od)) (va_A (pM cI cZ cG cR ad th tb fi se lf ct ln tx kl kp fl fo ol ot pl ky nu yk yn lc fw sd lw od) sz)) 0 0 (va_A (pM cI cZ cG cR ad th tb fi se lf ct ln tx kl kp fl fo ol ot pl ky nu yk yn lc fw sd lw od) sz) := by
  refine jv_mv (cc := cM_findLevels) (maxL := 6) (by decide) rfl (Nat.le_of_ble_eq_true rfl) ?_
  intro p0 e0 s0 m0 a0 b0 t0 c0 R0 Q0 A0 ls gX gB hts hown hml hRf hRl hA hK hret hl hP hD hS
  have hown : s0.vm.findClass "TextPipelineModel" = some m0.cls := hown
  have hw0 : ∀ w ∈ WS0, w.before a0 s0 = true := fun w h => hts w (List.mem_cons_of_mem _ h)
  have hl : lv_has ls 6 [(0, .ref (ad 0)), (1, .int (iv wt))] := hl
  have hRf : 3 ≤ R0.frames := hRf
  have hRl : 66 ≤ R0.locals := hRl
  have hn := hl9.1
  have hsz : ∀ j, 0 ≤ j → j < ln → 0 ≤ szM tb (tx j) ∧ szM tb (tx j) ≤ 11 := fun j a b => szM_rng hT (htx j a b).1
  refine lv_aload_n (pc := 0) gX gB dM_findLevels_0 rfl (lv_at hl 0 rfl) ?_
  refine lv_iload_n (pc := 1) gX gB dM_findLevels_1 rfl (lv_at hl 1 rfl) ?_
  refine jv_ri (pc := 2) (wr := []) (wn := fun u : Int => (pM cI cZ cG cR ad th tb fi se lf ct ln tx kl kp fl fo ol ot pl ky nu yk yn lc fw sd lw od)) (va_runV (rest := []) ⟨gX, gB, hml, hown, hw0⟩ (c_M_baseOf l dC dI cI cZ cG cR ad th tb fi se lf ct ln tx kl kp fl fo ol ot pl ky nu yk yn lc fw sd lw od _ wt (by omega) (by omega) (by omega) (by omega)) (jcV hw0 kM_baseOf q872 rfl rfl ⟨Nat.le_trans (Nat.le_of_ble_eq_true rfl) hRf, Nat.le_trans (Nat.le_of_ble_eq_true rfl) hRl⟩) (jv_preV (ci := 5) (q0 := 0) hK hP hD [0, 1, 2, 3, 4, 5, 6, 7, 8, 9, 10, 11, 12, 13, 14, 15, 16, 17, 18] rfl (by decide) rfl rfl) rfl rfl hl.1 rfl (lv_room (Nat.le_of_ble_eq_true rfl)) dM_findLevels_2 ⟨Nat.zero_le _, Nat.zero_le _⟩) hP hD hS hA [0, 1, 2, 3, 4, 5, 6, 7, 8, 9, 10, 11, 12, 13, 14, 15, 16, 17, 18] [] [0, 1, 2, 3, 4, 5, 6, 7, 8, 9, 10, 11, 12, 13, 14, 15, 16, 17, 18] rfl rfl (by decide) (by decide) (by decide) (fun _ => rfl) (fun r0 u H locs hw2 hP hD hS => ?_)
  obtain ⟨r_2, hu⟩ : ∃ z, z = u := ⟨_, rfl⟩; subst hu
  obtain ⟨rfl, hw2⟩ := hw2
  obtain ⟨hb9, hbq⟩ := hw2
  refine lv_istore_n (pc := 5) (lv' := [(2, .int (iv r_2)), (0, .ref (ad 0)), (1, .int (iv wt))]) gX gB dM_findLevels_5 rfl hl (by decide) rfl (fun ls hl => ?_)
  refine lv_aload_n (pc := 6) gX gB dM_findLevels_6 rfl (lv_at hl 1 rfl) ?_
  refine va_get (pc := 7) (D := (dC, dI)) (ci := 5) (v := .ref (ad 21)) (C := RM) (T := TM) (N := 24) gX gB hw0 inM hown hK hP 0 rfl rfl 21 (by decide) (hw0 _ q672) (fun _ h9 => h9) rfl dM_findLevels_7 ?_
  refine lv_iconst (pc := 10) (v := iv 0) gX gB dM_findLevels_10 rfl ?_
  refine lv_iload_n (pc := 11) gX gB dM_findLevels_11 rfl (lv_at hl 0 rfl) ?_
  refine jv_iast (pc := 12) (ws' := (pM cI cZ cG cR ad th tb fi se lf ct ln tx kl kp fl fo ol ot pl ky nu yk yn lc fw (uI sd 0 r_2) lw od)) gX gB hK hP hD hS 16 0 rfl rfl (by decide) (by omega) dM_findLevels_12 rfl (fun H locs hP hD hS => ?_)
  obtain ⟨s1, es1⟩ : ∃ z, z = (uI sd 0 r_2) := ⟨_, rfl⟩
  rw [← es1] at hP hD
  refine lv_aload_n (pc := 13) gX gB dM_findLevels_13 rfl (lv_at hl 1 rfl) ?_
  refine va_get (pc := 14) (D := (dC, dI)) (ci := 5) (v := .ref (ad 21)) (C := RM) (T := TM) (N := 24) gX gB hw0 inM hown hK hP 0 rfl rfl 21 (by decide) (hw0 _ q672) (fun _ h9 => h9) rfl dM_findLevels_14 ?_
  refine lv_aload_n (pc := 17) gX gB dM_findLevels_17 rfl (lv_at hl 1 rfl) ?_
  refine va_get (pc := 18) (D := (dC, dI)) (ci := 5) (v := .int (iv ln)) (C := RM) (T := TM) (N := 24) gX gB hw0 inM hown hK hP 0 rfl rfl 6 (by decide) (hw0 _ q657) (fun _ h9 => h9) rfl dM_findLevels_18 ?_
  refine lv_iconst (pc := 21) (v := iv 1) gX gB dM_findLevels_21 rfl ?_
  refine jv_iadd (pc := 22) (x := ln) (y := 1) gX gB dM_findLevels_22 ?_
  refine lv_iload_n (pc := 23) gX gB dM_findLevels_23 rfl (lv_at hl 0 rfl) ?_
  refine jv_iast (pc := 24) (ws' := (pM cI cZ cG cR ad th tb fi se lf ct ln tx kl kp fl fo ol ot pl ky nu yk yn lc fw (uI s1 (ln + 1) r_2) lw od)) gX gB hK hP hD hS 16 0 rfl rfl (by decide) (by omega) dM_findLevels_24 rfl (fun H locs hP hD hS => ?_)
  obtain ⟨s2, es2⟩ : ∃ z, z = (uI s1 (ln + 1) r_2) := ⟨_, rfl⟩
  rw [← es2] at hP hD
  have eg0 : s2 0 = r_2 := by rw [es2, uI_n (by omega), es1, uI_s]
  have eg1 : s2 (ln + 1) = r_2 := by rw [es2, uI_s]
  refine lv_iconst (pc := 25) (v := iv 0) gX gB dM_findLevels_25 rfl ?_
  refine lv_istore_n (pc := 26) (lv' := [(3, .int (iv 0)), (2, .int (iv r_2)), (0, .ref (ad 0)), (1, .int (iv wt))]) gX gB dM_findLevels_26 rfl hl (by decide) rfl (fun ls hl => ?_)
  have cut27 : ∀ (n0 : Nat) (i : Int) (g : Int → Int) (ls : Array Slot) (H : Heap) (locs : List Loc), (0 ≤ i ∧ i ≤ ln) → (g 0 = r_2) → (g (ln + 1) = r_2) → (∀ j, 0 ≤ j → j < i → g (j + 1) = szM tb (tx j)) → ((ln - i : Int).toNat < n0) → lv_has ls 6 [(0, .ref (ad 0)), (2, .int (iv r_2)), (3, .int (iv i))] → va_P (dC, dI) vwCl (pM cI cZ cG cR ad th tb fi se lf ct ln tx kl kp fl fo ol ot pl ky nu yk yn lc fw g lw od) H → va_D A0 (pM cI cZ cG cR ad th tb fi se lf ct ln tx kl kp fl fo ol ot pl ky nu yk yn lc fw g lw od) → va_S A0 s0.heap H locs → W p0 l e0 R0 s0 m0 a0 b0 t0 c0 H locs 0 0 Q0 (F0 m0 27 ls []) := by
    intro n0
    induction n0 with
    | zero => intro i g ls H locs hi hg0 hg1 hgs hm hl hP hD hS; exact absurd hm (Nat.not_lt_zero _)
    | succ n0 ih27 =>
      intro i g ls H locs hi hg0 hg1 hgs hm27 hl hP hD hS
      refine lv_iload_n (pc := 27) gX gB dM_findLevels_27 rfl (lv_at hl 2 rfl) ?_
      refine lv_aload_n (pc := 28) gX gB dM_findLevels_28 rfl (lv_at hl 0 rfl) ?_
      refine va_get (pc := 29) (D := (dC, dI)) (ci := 5) (v := .int (iv ln)) (C := RM) (T := TM) (N := 24) gX gB hw0 inM hown hK hP 0 rfl rfl 6 (by decide) (hw0 _ q657) (fun _ h9 => h9) rfl dM_findLevels_29 ?_
      refine jv_icmp_ge (pc := 32) (tgt := 59) gX gB dM_findLevels_32 (by decide) (by omega) (by omega) (fun h1 => ?_) (fun h1 => ?_)
      · skip
        have EK : EqR ln g (k0f (szM tb) tx ln r_2) := fun j a b => by unfold k0f; by_cases c : j = 0 ∨ j = ln + 1; (rw [if_pos c]; rcases c with c | c; (rw [c]; exact hg0); (rw [c]; exact hg1)); (rw [if_neg c]; have q := hgs (j - 1) (by omega) (by omega); rw [show j - 1 + 1 = j by omega] at q; exact q)
        have BK := k0_bs (sz := szM tb) (tx := tx) (n := ln) (b := r_2) hn hb9 hsz
        have BG := BS_eq hn EK BK
        clear hg0 hg1 hgs
        refine lv_aload_n (pc := 59) gX gB dM_findLevels_59 rfl (lv_at hl 0 rfl) ?_
        refine jv_rv (pc := 60) (wr := []) (wn := fun u : (Int → Int) => (pM cI cZ cG cR ad th tb fi se lf ct ln tx kl kp fl fo ol ot pl ky nu yk yn lc fw u lw od)) (va_runV (rest := []) ⟨gX, gB, hml, hown, hw0⟩ (c_M_weaken l dC dI cI cZ cG cR ad th tb fi se lf ct ln tx kl kp fl fo ol ot pl ky nu yk yn lc fw g lw od _  (by omega) (by exact BG)) (jcV hw0 kM_weaken q880 rfl rfl ⟨Nat.le_trans (Nat.le_of_ble_eq_true rfl) hRf, Nat.le_trans (Nat.le_of_ble_eq_true rfl) hRl⟩) (jv_preV (ci := 5) (q0 := 0) hK hP hD [0, 1, 2, 3, 4, 5, 6, 7, 8, 9, 10, 11, 12, 13, 14, 15, 16, 17, 18] rfl (by decide) rfl rfl) rfl rfl hl.1 rfl (lv_room (Nat.le_of_ble_eq_true rfl)) dM_findLevels_60 ⟨Nat.zero_le _, Nat.zero_le _⟩) hP hD hS hA [0, 1, 2, 3, 4, 5, 6, 7, 8, 9, 10, 11, 12, 13, 14, 15, 16, 17, 18] [] [0, 1, 2, 3, 4, 5, 6, 7, 8, 9, 10, 11, 12, 13, 14, 15, 16, 17, 18] rfl rfl (by decide) (by decide) (by decide) (fun _ => rfl) (fun u H locs hw60 hP hD hS => ?_)
        obtain ⟨sd_60, hu⟩ : ∃ z, z = u := ⟨_, rfl⟩; subst hu
        have BW := BS_eq hn hw60 (wk_bs hn BG).1
        refine lv_aload_n (pc := 63) gX gB dM_findLevels_63 rfl (lv_at hl 0 rfl) ?_
        refine lv_iload_n (pc := 64) gX gB dM_findLevels_64 rfl (lv_at hl 1 rfl) ?_
        refine jv_rv (pc := 65) (wr := []) (wn := fun u : (Int → Int) => (pM cI cZ cG cR ad th tb fi se lf ct ln tx kl kp fl fo ol ot pl ky nu yk yn lc fw u lw od)) (va_runV (rest := []) ⟨gX, gB, hml, hown, hw0⟩ (c_M_neutrals l dC dI cI cZ cG cR ad th tb fi se lf ct ln tx kl kp fl fo ol ot pl ky nu yk yn lc fw sd_60 lw od _ r_2 (by omega) (by exact hb9) (by exact BW)) (jcV hw0 kM_neutrals q892 rfl rfl ⟨Nat.le_trans (Nat.le_of_ble_eq_true rfl) hRf, Nat.le_trans (Nat.le_of_ble_eq_true rfl) hRl⟩) (jv_preV (ci := 5) (q0 := 0) hK hP hD [0, 1, 2, 3, 4, 5, 6, 7, 8, 9, 10, 11, 12, 13, 14, 15, 16, 17, 18] rfl (by decide) rfl rfl) rfl rfl hl.1 rfl (lv_room (Nat.le_of_ble_eq_true rfl)) dM_findLevels_65 ⟨Nat.zero_le _, Nat.zero_le _⟩) hP hD hS hA [0, 1, 2, 3, 4, 5, 6, 7, 8, 9, 10, 11, 12, 13, 14, 15, 16, 17, 18] [] [0, 1, 2, 3, 4, 5, 6, 7, 8, 9, 10, 11, 12, 13, 14, 15, 16, 17, 18] rfl rfl (by decide) (by decide) (by decide) (fun _ => rfl) (fun u H locs hw65 hP hD hS => ?_)
        obtain ⟨sd_65, hu⟩ : ∃ z, z = u := ⟨_, rfl⟩; subst hu
        have EF : EqR ln sd_65 (kff (szM tb) tx ln r_2) := hw65.trans (EqR_8 (hw60.trans (wk_congr hn BG EK)))
        have RF : RGK ln sd_65 := fun j a b => by rw [hw65 j a b]; exact (BS_8 hn hb9 BW).2.2 j a b
        refine lv_iconst (pc := 68) (v := iv 0) gX gB dM_findLevels_68 rfl ?_
        refine lv_istore_n (pc := 69) (lv' := [(3, .int (iv 0)), (0, .ref (ad 0)), (2, .int (iv r_2))]) gX gB dM_findLevels_69 rfl hl (by decide) rfl (fun ls hl => ?_)
        have cut70 : ∀ (n0 : Nat) (i : Int) (l1 : Int → Int) (ls : Array Slot) (H : Heap) (locs : List Loc), (0 ≤ i ∧ i ≤ ln) → (∀ j, 0 ≤ j → j < i → l1 j = lv0 r_2 (sd_65 (j + 1))) → ((ln - i : Int).toNat < n0) → lv_has ls 6 [(0, .ref (ad 0)), (2, .int (iv r_2)), (3, .int (iv i))] → va_P (dC, dI) vwCl (pM cI cZ cG cR ad th tb fi se lf ct ln tx kl kp fl fo ol ot pl ky nu yk yn lc fw sd_65 l1 od) H → va_D A0 (pM cI cZ cG cR ad th tb fi se lf ct ln tx kl kp fl fo ol ot pl ky nu yk yn lc fw sd_65 l1 od) → va_S A0 s0.heap H locs → W p0 l e0 R0 s0 m0 a0 b0 t0 c0 H locs 0 0 Q0 (F0 m0 70 ls []) := by
          intro n0
          induction n0 with
          | zero => intro i l1 ls H locs hi hl1 hm hl hP hD hS; exact absurd hm (Nat.not_lt_zero _)
          | succ n0 ih70 =>
            intro i l1 ls H locs hi hl1 hm70 hl hP hD hS
            refine lv_iload_n (pc := 70) gX gB dM_findLevels_70 rfl (lv_at hl 2 rfl) ?_
            refine lv_aload_n (pc := 71) gX gB dM_findLevels_71 rfl (lv_at hl 0 rfl) ?_
            refine va_get (pc := 72) (D := (dC, dI)) (ci := 5) (v := .int (iv ln)) (C := RM) (T := TM) (N := 24) gX gB hw0 inM hown hK hP 0 rfl rfl 6 (by decide) (hw0 _ q657) (fun _ h9 => h9) rfl dM_findLevels_72 ?_
            refine jv_icmp_ge (pc := 75) (tgt := 130) gX gB dM_findLevels_75 (by decide) (by omega) (by omega) (fun h2 => ?_) (fun h2 => ?_)
            · skip
              have hll : ∀ j, 0 ≤ j → j < ln → l1 j = lv0 r_2 (sd_65 (j + 1)) := fun j a b => hl1 j a (by omega)
              refine lv_iconst (pc := 130) (v := iv 1) gX gB dM_findLevels_130 rfl ?_
              refine lv_istore_n (pc := 131) (lv' := [(3, .int (iv 1)), (0, .ref (ad 0)), (2, .int (iv r_2))]) gX gB dM_findLevels_131 rfl hl (by decide) rfl (fun ls hl => ?_)
              refine lv_aload_n (pc := 132) gX gB dM_findLevels_132 rfl (lv_at hl 1 rfl) ?_
              refine va_get (pc := 133) (D := (dC, dI)) (ci := 5) (v := .int (iv ln)) (C := RM) (T := TM) (N := 24) gX gB hw0 inM hown hK hP 0 rfl rfl 6 (by decide) (hw0 _ q657) (fun _ h9 => h9) rfl dM_findLevels_133 ?_
              refine lv_iconst (pc := 136) (v := iv 1) gX gB dM_findLevels_136 rfl ?_
              refine jv_isub (pc := 137) (x := ln) (y := 1) gX gB dM_findLevels_137 ?_
              refine lv_istore (pc := 138) (lv' := [(4, .int (iv (ln - 1))), (3, .int (iv 1)), (0, .ref (ad 0)), (2, .int (iv r_2))]) gX gB dM_findLevels_138 hl (by decide) rfl (fun ls hl => ?_)
              have cut140 : ∀ (n0 : Nat) (be : Int) (i : Int) (l2 : Int → Int) (ls : Array Slot) (H : Heap) (locs : List Loc), (-1 ≤ i ∧ i ≤ ln - 1) → (be = gapf (szM tb) tx (ln - (i + 1) : Int).toNat (i + 1)) → (be = 0 ∨ be = 1) → (∀ j, 0 ≤ j → j ≤ i → l2 j = lv0 r_2 (sd_65 (j + 1))) → (∀ j, i < j → j < ln → l2 j = if gapf (szM tb) tx (ln - j : Int).toNat j = 1 then r_2 else lv0 r_2 (sd_65 (j + 1))) → ((i + 1 : Int).toNat < n0) → lv_has ls 6 [(0, .ref (ad 0)), (2, .int (iv r_2)), (3, .int (iv be)), (4, .int (iv i))] → va_P (dC, dI) vwCl (pM cI cZ cG cR ad th tb fi se lf ct ln tx kl kp fl fo ol ot pl ky nu yk yn lc fw sd_65 l2 od) H → va_D A0 (pM cI cZ cG cR ad th tb fi se lf ct ln tx kl kp fl fo ol ot pl ky nu yk yn lc fw sd_65 l2 od) → va_S A0 s0.heap H locs → W p0 l e0 R0 s0 m0 a0 b0 t0 c0 H locs 0 0 Q0 (F0 m0 140 ls []) := by
                intro n0
                induction n0 with
                | zero => intro be i l2 ls H locs hi hbe hb01 hlo hhi hm hl hP hD hS; exact absurd hm (Nat.not_lt_zero _)
                | succ n0 ih140 =>
                  intro be i l2 ls H locs hi hbe hb01 hlo hhi hm140 hl hP hD hS
                  have rgbe : -2147483648 ≤ be ∧ be < 2147483648 := by rcases hb01 with z | z <;> (rw [z]; decide)
                  refine lv_iload (pc := 140) gX gB dM_findLevels_140 (lv_at hl 3 rfl) ?_
                  refine jv_if_lt (pc := 142) (tgt := 210) gX gB dM_findLevels_142 (by decide) (by omega) (fun h3 => ?_) (fun h3 => ?_)
                  · skip
                    exact hret (sd_65, l2) dM_findLevels_210 (by first | (dsimp only; intro j a b; have h9 := hhi j (by omega) b; have hR := RF (j + 1) (by omega) (by omega); have hL := lv0_rng hb9 hR.1; refine ⟨?_, ?_⟩; (rw [h9]; unfold lvf; rw [← hbq, ← EF (j + 1) (by omega) (by omega)]); (rw [h9]; split; (rcases hb9 with z | z <;> (rw [z]; decide)); exact hL)) | (intro j a b; have h9 := hhi j (by omega) b; have hR := RF (j + 1) (by omega) (by omega); have hL := lv0_rng hb9 hR.1; refine ⟨?_, ?_⟩; (rw [h9]; unfold lvf; rw [← hbq, ← EF (j + 1) (by omega) (by omega)]); (rw [h9]; split; (rcases hb9 with z | z <;> (rw [z]; decide)); exact hL))) hP hD hS
                  have ht9 := htx i (by omega) (by omega)
                  have hgp := gapf_s (sz := szM tb) (tx := tx) (d := ln - i) (i := i) (by omega)
                  rw [show ln - i - 1 = ln - (i + 1) by omega, ← hbe] at hgp
                  refine lv_aload_n (pc := 145) gX gB dM_findLevels_145 rfl (lv_at hl 0 rfl) ?_
                  refine lv_aload_n (pc := 146) gX gB dM_findLevels_146 rfl (lv_at hl 0 rfl) ?_
                  refine va_get (pc := 147) (D := (dC, dI)) (ci := 5) (v := .ref (ad 7)) (C := RM) (T := TM) (N := 24) gX gB hw0 inM hown hK hP 0 rfl rfl 7 (by decide) (hw0 _ q658) (fun _ h9 => h9) rfl dM_findLevels_147 ?_
                  refine lv_iload (pc := 150) gX gB dM_findLevels_150 (lv_at hl 3 rfl) ?_
                  refine jv_iald (pc := 152) gX gB hK hP 6 0 rfl rfl (by decide) (by omega) dM_findLevels_152 ?_
                  refine jv_ri (pc := 153) (wr := []) (wn := fun u : Int => (pM cI cZ cG cR ad th tb fi se lf ct ln tx kl kp fl fo ol ot pl ky nu yk yn lc fw sd_65 l2 od)) (va_runV (rest := []) ⟨gX, gB, hml, hown, hw0⟩ (c_M_sideOf l dC dI cI cZ cG cR ad th tb fi se lf ct ln tx kl kp fl fo ol ot pl ky nu yk yn lc fw sd_65 l2 od _ (tx i) (by omega) (by omega)) (jcV hw0 kM_sideOf q876 rfl rfl ⟨Nat.le_trans (Nat.le_of_ble_eq_true rfl) hRf, Nat.le_trans (Nat.le_of_ble_eq_true rfl) hRl⟩) (jv_preV (ci := 5) (q0 := 0) hK hP hD [0, 1, 2, 3, 4, 5, 6, 7, 8, 9, 10, 11, 12, 13, 14, 15, 16, 17, 18] rfl (by decide) rfl rfl) rfl rfl hl.1 rfl (lv_room (Nat.le_of_ble_eq_true rfl)) dM_findLevels_153 ⟨Nat.zero_le _, Nat.zero_le _⟩) hP hD hS hA [0, 1, 2, 3, 4, 5, 6, 7, 8, 9, 10, 11, 12, 13, 14, 15, 16, 17, 18] [] [0, 1, 2, 3, 4, 5, 6, 7, 8, 9, 10, 11, 12, 13, 14, 15, 16, 17, 18] rfl rfl (by decide) (by decide) (by decide) (fun _ => rfl) (fun r0 u H locs hw153 hP hD hS => ?_)
                  obtain ⟨r_153, hu⟩ : ∃ z, z = u := ⟨_, rfl⟩; subst hu
                  obtain ⟨rfl, hw153⟩ := hw153
                  refine lv_istore (pc := 156) (lv' := [(5, .int (iv r_153)), (0, .ref (ad 0)), (2, .int (iv r_2)), (3, .int (iv be)), (4, .int (iv i))]) gX gB dM_findLevels_156 hl (by decide) rfl (fun ls hl => ?_)
                  have cut181 : ∀ (b2 : Int) (ls : Array Slot) (H : Heap) (locs : List Loc), (b2 = gapf (szM tb) tx (ln - i : Int).toNat i) → (b2 = 0 ∨ b2 = 1) → lv_has ls 6 [(0, .ref (ad 0)), (2, .int (iv r_2)), (4, .int (iv i))] → va_P (dC, dI) vwCl (pM cI cZ cG cR ad th tb fi se lf ct ln tx kl kp fl fo ol ot pl ky nu yk yn lc fw sd_65 l2 od) H → va_D A0 (pM cI cZ cG cR ad th tb fi se lf ct ln tx kl kp fl fo ol ot pl ky nu yk yn lc fw sd_65 l2 od) → va_S A0 s0.heap H locs → W p0 l e0 R0 s0 m0 a0 b0 t0 c0 H locs 0 0 Q0 (F0 m0 181 ls [.int (iv b2)]) := by
                    intro b2 ls H locs hb2 hb3 hl hP hD hS
                    refine lv_istore_n (pc := 181) (lv' := [(3, .int (iv b2)), (0, .ref (ad 0)), (2, .int (iv r_2)), (4, .int (iv i))]) gX gB dM_findLevels_181 rfl hl (by decide) rfl (fun ls hl => ?_)
                    have rgb : -2147483648 ≤ b2 ∧ b2 < 2147483648 := by rcases hb3 with z | z <;> (rw [z]; decide)
                    refine lv_aload_n (pc := 182) gX gB dM_findLevels_182 rfl (lv_at hl 1 rfl) ?_
                    refine va_get (pc := 183) (D := (dC, dI)) (ci := 5) (v := .ref (ad 22)) (C := RM) (T := TM) (N := 24) gX gB hw0 inM hown hK hP 0 rfl rfl 22 (by decide) (hw0 _ q673) (fun _ h9 => h9) rfl dM_findLevels_183 ?_
                    refine lv_iload (pc := 186) gX gB dM_findLevels_186 (lv_at hl 3 rfl) ?_
                    have cut203 : ∀ (v : Int) (ls : Array Slot) (H : Heap) (locs : List Loc), (v = if gapf (szM tb) tx (ln - i : Int).toNat i = 1 then r_2 else lv0 r_2 (sd_65 (i + 1))) → lv_has ls 6 [(0, .ref (ad 0)), (2, .int (iv r_2)), (3, .int (iv b2)), (4, .int (iv i))] → va_P (dC, dI) vwCl (pM cI cZ cG cR ad th tb fi se lf ct ln tx kl kp fl fo ol ot pl ky nu yk yn lc fw sd_65 l2 od) H → va_D A0 (pM cI cZ cG cR ad th tb fi se lf ct ln tx kl kp fl fo ol ot pl ky nu yk yn lc fw sd_65 l2 od) → va_S A0 s0.heap H locs → W p0 l e0 R0 s0 m0 a0 b0 t0 c0 H locs 0 0 Q0 (F0 m0 203 ls [.int (iv v), .int (iv i), .ref (ad 22)]) := by
                      intro v ls H locs hv9 hl hP hD hS
                      refine jv_iast (pc := 203) (ws' := (pM cI cZ cG cR ad th tb fi se lf ct ln tx kl kp fl fo ol ot pl ky nu yk yn lc fw sd_65 (uI l2 i v) od)) gX gB hK hP hD hS 17 0 rfl rfl (by decide) (by omega) dM_findLevels_203 rfl (fun H locs hP hD hS => ?_)
                      refine jv_idec (pc := 204) (k := 3) (x := i) (n := (-1)) (d := 1) (lv' := [(4, .int (iv (i - 1))), (0, .ref (ad 0)), (2, .int (iv r_2)), (3, .int (iv b2))]) gX gB dM_findLevels_204 (by decide) hl rfl (by decide) rfl (fun ls hl => ?_)
                      refine lv_goto (pc := 207) (tgt := 140) gX gB dM_findLevels_207 (by decide) ?_
                      exact ih140 b2 (i - 1) (uI l2 i v) _ _ _ (by omega) (by rw [hb2, show i - 1 + 1 = i by omega]) (by exact hb3) (by intro j a b; rw [uI_n (by omega)]; exact hlo j a (by omega)) (by intro j a b; by_cases e : j = i; (rw [e, uI_s]; exact hv9); (rw [uI_n e]; exact hhi j (by omega) b)) (by omega) (lv_sub hl [1, 2, 3, 0] rfl) hP hD hS
                    refine lv_iload_n (pc := 188) gX gB dM_findLevels_188 rfl (lv_at hl 0 rfl) ?_
                    refine jv_if_eq (pc := 189) (tgt := 196) gX gB dM_findLevels_189 (by decide) rgb (fun h4 => ?_) (fun h4 => ?_)
                    · skip
                      refine lv_aload_n (pc := 196) gX gB dM_findLevels_196 rfl (lv_at hl 1 rfl) ?_
                      refine va_get (pc := 197) (D := (dC, dI)) (ci := 5) (v := .ref (ad 22)) (C := RM) (T := TM) (N := 24) gX gB hw0 inM hown hK hP 0 rfl rfl 22 (by decide) (hw0 _ q673) (fun _ h9 => h9) rfl dM_findLevels_197 ?_
                      refine lv_iload (pc := 200) gX gB dM_findLevels_200 (lv_at hl 3 rfl) ?_
                      refine jv_iald (pc := 202) gX gB hK hP 17 0 rfl rfl (by decide) (by omega) dM_findLevels_202 ?_
                      exact cut203 (l2 i) _ _ _ (by rw [← hb2, if_neg (by omega)]; exact hlo i (by omega) (by omega)) (lv_sub hl [1, 2, 0, 3] rfl) hP hD hS
                    refine lv_iload_n (pc := 192) gX gB dM_findLevels_192 rfl (lv_at hl 2 rfl) ?_
                    refine lv_goto (pc := 193) (tgt := 203) gX gB dM_findLevels_193 (by decide) ?_
                    exact cut203 r_2 _ _ _ (by rw [← hb2, if_pos (hb3.resolve_left (by assumption))]) (lv_sub hl [1, 2, 0, 3] rfl) hP hD hS
                  refine lv_iload (pc := 158) gX gB dM_findLevels_158 (lv_at hl 0 rfl) ?_
                  refine lv_bipush (pc := 160) (v := iv 10) gX gB dM_findLevels_160 (by decide) ?_
                  refine jv_icmp_eq (pc := 162) (tgt := 176) gX gB dM_findLevels_162 (by decide) (by omega) (by decide) (fun h5 => ?_) (fun h5 => ?_)
                  · skip
                    refine lv_iconst (pc := 176) (v := iv 1) gX gB dM_findLevels_176 rfl ?_
                    refine lv_goto (pc := 177) (tgt := 181) gX gB dM_findLevels_177 (by decide) ?_
                    exact cut181 1 _ _ _ (by rw [hgp, if_pos (by first | exact Or.inl (by omega) | exact Or.inr ⟨by omega, hb01.resolve_left (by assumption)⟩)]) (by exact Or.inr rfl) (lv_sub hl [1, 2, 4] rfl) hP hD hS
                  refine lv_iload (pc := 165) gX gB dM_findLevels_165 (lv_at hl 0 rfl) ?_
                  refine lv_bipush (pc := 167) (v := iv 9) gX gB dM_findLevels_167 (by decide) ?_
                  refine jv_icmp_ne (pc := 169) (tgt := 180) gX gB dM_findLevels_169 (by decide) (by omega) (by decide) (fun h6 => ?_) (fun h6 => ?_)
                  · skip
                    refine lv_iconst (pc := 180) (v := iv 0) gX gB dM_findLevels_180 rfl ?_
                    exact cut181 0 _ _ _ (by rw [hgp, if_neg (fun z => by rcases z with z | ⟨z1, z2⟩ <;> omega)]) (by exact Or.inl rfl) (lv_sub hl [1, 2, 4] rfl) hP hD hS
                  refine lv_iload_n (pc := 172) gX gB dM_findLevels_172 rfl (lv_at hl 3 rfl) ?_
                  refine jv_if_eq (pc := 173) (tgt := 180) gX gB dM_findLevels_173 (by decide) rgbe (fun h7 => ?_) (fun h7 => ?_)
                  · skip
                    refine lv_iconst (pc := 180) (v := iv 0) gX gB dM_findLevels_180 rfl ?_
                    exact cut181 0 _ _ _ (by rw [hgp, if_neg (fun z => by rcases z with z | ⟨z1, z2⟩ <;> omega)]) (by exact Or.inl rfl) (lv_sub hl [1, 2, 4] rfl) hP hD hS
                  refine lv_iconst (pc := 176) (v := iv 1) gX gB dM_findLevels_176 rfl ?_
                  refine lv_goto (pc := 177) (tgt := 181) gX gB dM_findLevels_177 (by decide) ?_
                  exact cut181 1 _ _ _ (by rw [hgp, if_pos (by first | exact Or.inl (by omega) | exact Or.inr ⟨by omega, hb01.resolve_left (by assumption)⟩)]) (by exact Or.inr rfl) (lv_sub hl [1, 2, 4] rfl) hP hD hS
              exact cut140 ((((ln - 1) + 1 : Int).toNat) + 1) 1 (ln - 1) l1 _ _ _ (by omega) (by rw [show ln - (ln - 1 + 1) = 0 by omega]; rfl) (by exact Or.inr rfl) (by exact fun j a b => hll j a (by omega)) (by intro j a b; omega) (Nat.lt_succ_self _) (lv_sub hl [2, 3, 1, 0] rfl) hP hD hS
            have hRi := RF (i + 1) (by omega) (by omega)
            refine lv_aload_n (pc := 78) gX gB dM_findLevels_78 rfl (lv_at hl 0 rfl) ?_
            refine va_get (pc := 79) (D := (dC, dI)) (ci := 5) (v := .ref (ad 21)) (C := RM) (T := TM) (N := 24) gX gB hw0 inM hown hK hP 0 rfl rfl 21 (by decide) (hw0 _ q672) (fun _ h9 => h9) rfl dM_findLevels_79 ?_
            refine lv_iload_n (pc := 82) gX gB dM_findLevels_82 rfl (lv_at hl 2 rfl) ?_
            refine lv_iconst (pc := 83) (v := iv 1) gX gB dM_findLevels_83 rfl ?_
            refine jv_iadd (pc := 84) (x := i) (y := 1) gX gB dM_findLevels_84 ?_
            refine jv_iald (pc := 85) gX gB hK hP 16 0 rfl rfl (by decide) (by omega) dM_findLevels_85 ?_
            refine lv_istore (pc := 86) (lv' := [(4, .int (iv (sd_65 (i + 1)))), (0, .ref (ad 0)), (2, .int (iv r_2)), (3, .int (iv i))]) gX gB dM_findLevels_86 hl (by decide) rfl (fun ls hl => ?_)
            refine lv_aload_n (pc := 88) gX gB dM_findLevels_88 rfl (lv_at hl 1 rfl) ?_
            refine va_get (pc := 89) (D := (dC, dI)) (ci := 5) (v := .ref (ad 22)) (C := RM) (T := TM) (N := 24) gX gB hw0 inM hown hK hP 0 rfl rfl 22 (by decide) (hw0 _ q673) (fun _ h9 => h9) rfl dM_findLevels_89 ?_
            refine lv_iload_n (pc := 92) gX gB dM_findLevels_92 rfl (lv_at hl 3 rfl) ?_
            have cut123 : ∀ (v : Int) (ls : Array Slot) (H : Heap) (locs : List Loc), (v = lv0 r_2 (sd_65 (i + 1))) → lv_has ls 6 [(0, .ref (ad 0)), (2, .int (iv r_2)), (3, .int (iv i))] → va_P (dC, dI) vwCl (pM cI cZ cG cR ad th tb fi se lf ct ln tx kl kp fl fo ol ot pl ky nu yk yn lc fw sd_65 l1 od) H → va_D A0 (pM cI cZ cG cR ad th tb fi se lf ct ln tx kl kp fl fo ol ot pl ky nu yk yn lc fw sd_65 l1 od) → va_S A0 s0.heap H locs → W p0 l e0 R0 s0 m0 a0 b0 t0 c0 H locs 0 0 Q0 (F0 m0 123 ls [.int (iv v), .int (iv i), .ref (ad 22)]) := by
              intro v ls H locs hv9 hl hP hD hS
              refine jv_iast (pc := 123) (ws' := (pM cI cZ cG cR ad th tb fi se lf ct ln tx kl kp fl fo ol ot pl ky nu yk yn lc fw sd_65 (uI l1 i v) od)) gX gB hK hP hD hS 17 0 rfl rfl (by decide) (by omega) dM_findLevels_123 rfl (fun H locs hP hD hS => ?_)
              refine jv_iinc (pc := 124) (k := 2) (x := i) (n := 1) (lv' := [(3, .int (iv (i + 1))), (0, .ref (ad 0)), (2, .int (iv r_2))]) gX gB dM_findLevels_124 hl rfl (by decide) rfl (fun ls hl => ?_)
              refine lv_goto (pc := 127) (tgt := 70) gX gB dM_findLevels_127 (by decide) ?_
              exact ih70 (i + 1) (uI l1 i v) _ _ _ (by omega) (by intro j a b; by_cases e : j = i; (rw [e, uI_s]; exact hv9); (rw [uI_n e]; exact hl1 j a (by omega))) (by omega) (lv_sub hl [1, 2, 0] rfl) hP hD hS
            refine lv_iload_n (pc := 93) gX gB dM_findLevels_93 rfl (lv_at hl 2 rfl) ?_
            refine jv_if_ne (pc := 94) (tgt := 112) gX gB dM_findLevels_94 (by decide) (by omega) (fun h8 => ?_) (fun h8 => ?_)
            · skip
              refine lv_iload (pc := 112) gX gB dM_findLevels_112 (lv_at hl 0 rfl) ?_
              refine lv_iconst (pc := 114) (v := iv 1) gX gB dM_findLevels_114 rfl ?_
              refine jv_icmp_ne (pc := 115) (tgt := 122) gX gB dM_findLevels_115 (by decide) (by omega) (by decide) (fun h9 => ?_) (fun h9 => ?_)
              · skip
                refine lv_iconst (pc := 122) (v := iv 2) gX gB dM_findLevels_122 rfl ?_
                exact cut123 2 _ _ _ (by unfold lv0; rw [if_neg (by omega), if_neg (by omega)]) (lv_sub hl [1, 2, 3] rfl) hP hD hS
              refine lv_iconst (pc := 118) (v := iv 1) gX gB dM_findLevels_118 rfl ?_
              refine lv_goto (pc := 119) (tgt := 123) gX gB dM_findLevels_119 (by decide) ?_
              exact cut123 1 _ _ _ (by unfold lv0; rw [if_neg (by omega), if_pos (by omega)]) (lv_sub hl [1, 2, 3] rfl) hP hD hS
            refine lv_iload (pc := 97) gX gB dM_findLevels_97 (lv_at hl 0 rfl) ?_
            refine lv_iconst (pc := 99) (v := iv 2) gX gB dM_findLevels_99 rfl ?_
            refine jv_icmp_ge (pc := 100) (tgt := 108) gX gB dM_findLevels_100 (by decide) (by omega) (by decide) (fun h10 => ?_) (fun h10 => ?_)
            · skip
              refine lv_iconst (pc := 108) (v := iv 2) gX gB dM_findLevels_108 rfl ?_
              refine lv_goto (pc := 109) (tgt := 123) gX gB dM_findLevels_109 (by decide) ?_
              exact cut123 2 _ _ _ (by unfold lv0; rw [if_pos (by omega), if_neg (by omega)]) (lv_sub hl [1, 2, 3] rfl) hP hD hS
            refine lv_iload (pc := 103) gX gB dM_findLevels_103 (lv_at hl 0 rfl) ?_
            refine lv_goto (pc := 105) (tgt := 123) gX gB dM_findLevels_105 (by decide) ?_
            exact cut123 (sd_65 (i + 1)) _ _ _ (by unfold lv0; rw [if_pos (by omega), if_pos (by omega)]) (lv_sub hl [1, 2, 3] rfl) hP hD hS
        exact cut70 (((ln - 0 : Int).toNat) + 1) 0 lw _ _ _ (by omega) (by intro j a b; omega) (Nat.lt_succ_self _) (lv_sub hl [1, 2, 0] rfl) hP hD hS
      have ht9 := htx i (by omega) (by omega)
      refine lv_aload_n (pc := 35) gX gB dM_findLevels_35 rfl (lv_at hl 0 rfl) ?_
      refine va_get (pc := 36) (D := (dC, dI)) (ci := 5) (v := .ref (ad 21)) (C := RM) (T := TM) (N := 24) gX gB hw0 inM hown hK hP 0 rfl rfl 21 (by decide) (hw0 _ q672) (fun _ h9 => h9) rfl dM_findLevels_36 ?_
      refine lv_iload_n (pc := 39) gX gB dM_findLevels_39 rfl (lv_at hl 2 rfl) ?_
      refine lv_iconst (pc := 40) (v := iv 1) gX gB dM_findLevels_40 rfl ?_
      refine jv_iadd (pc := 41) (x := i) (y := 1) gX gB dM_findLevels_41 ?_
      refine lv_aload_n (pc := 42) gX gB dM_findLevels_42 rfl (lv_at hl 0 rfl) ?_
      refine lv_aload_n (pc := 43) gX gB dM_findLevels_43 rfl (lv_at hl 0 rfl) ?_
      refine va_get (pc := 44) (D := (dC, dI)) (ci := 5) (v := .ref (ad 7)) (C := RM) (T := TM) (N := 24) gX gB hw0 inM hown hK hP 0 rfl rfl 7 (by decide) (hw0 _ q658) (fun _ h9 => h9) rfl dM_findLevels_44 ?_
      refine lv_iload_n (pc := 47) gX gB dM_findLevels_47 rfl (lv_at hl 2 rfl) ?_
      refine jv_iald (pc := 48) gX gB hK hP 6 0 rfl rfl (by decide) (by omega) dM_findLevels_48 ?_
      refine jv_ri (pc := 49) (wr := []) (wn := fun u : Int => (pM cI cZ cG cR ad th tb fi se lf ct ln tx kl kp fl fo ol ot pl ky nu yk yn lc fw g lw od)) (va_runV (rest := [.int (iv (i + 1)), .ref (ad 21)]) ⟨gX, gB, hml, hown, hw0⟩ (c_M_sideOf l dC dI cI cZ cG cR ad th tb fi se lf ct ln tx kl kp fl fo ol ot pl ky nu yk yn lc fw g lw od _ (tx i) (by omega) (by omega)) (jcV hw0 kM_sideOf q876 rfl rfl ⟨Nat.le_trans (Nat.le_of_ble_eq_true rfl) hRf, Nat.le_trans (Nat.le_of_ble_eq_true rfl) hRl⟩) (jv_preV (ci := 5) (q0 := 0) hK hP hD [0, 1, 2, 3, 4, 5, 6, 7, 8, 9, 10, 11, 12, 13, 14, 15, 16, 17, 18] rfl (by decide) rfl rfl) rfl rfl hl.1 rfl (lv_room (Nat.le_of_ble_eq_true rfl)) dM_findLevels_49 ⟨Nat.zero_le _, Nat.zero_le _⟩) hP hD hS hA [0, 1, 2, 3, 4, 5, 6, 7, 8, 9, 10, 11, 12, 13, 14, 15, 16, 17, 18] [] [0, 1, 2, 3, 4, 5, 6, 7, 8, 9, 10, 11, 12, 13, 14, 15, 16, 17, 18] rfl rfl (by decide) (by decide) (by decide) (fun _ => rfl) (fun r0 u H locs hw49 hP hD hS => ?_)
      obtain ⟨r_49, hu⟩ : ∃ z, z = u := ⟨_, rfl⟩; subst hu
      obtain ⟨rfl, hw49⟩ := hw49
      refine jv_iast (pc := 52) (ws' := (pM cI cZ cG cR ad th tb fi se lf ct ln tx kl kp fl fo ol ot pl ky nu yk yn lc fw (uI g (i + 1) r_49) lw od)) gX gB hK hP hD hS 16 0 rfl rfl (by decide) (by omega) dM_findLevels_52 rfl (fun H locs hP hD hS => ?_)
      refine jv_iinc (pc := 53) (k := 2) (x := i) (n := 1) (lv' := [(3, .int (iv (i + 1))), (0, .ref (ad 0)), (2, .int (iv r_2))]) gX gB dM_findLevels_53 hl rfl (by decide) rfl (fun ls hl => ?_)
      refine lv_goto (pc := 56) (tgt := 27) gX gB dM_findLevels_56 (by decide) ?_
      exact ih27 (i + 1) (uI g (i + 1) r_49) _ _ _ (by omega) (by rw [uI_n (by omega)]; exact hg0) (by rw [uI_n (by omega)]; exact hg1) (by intro j a b; by_cases e : j = i; (rw [e, uI_s, hw49.1]); (rw [uI_n (by omega)]; exact hgs j a (by omega))) (by omega) (lv_sub hl [1, 2, 0] rfl) hP hD hS
  exact cut27 (((ln - 0 : Int).toNat) + 1) 0 s2 _ _ _ (by omega) (by exact eg0) (by exact eg1) (by intro j a b; omega) (Nat.lt_succ_self _) (lv_sub hl [2, 1, 0] rfl) hP hD hS
set_option maxRecDepth 100000 in
set_option maxHeartbeats 1000000 in
theorem c_M_level (l : Launch) (dC : Nat → ClassId) (dI : Nat → Nat → Nat) (cI : ClassId) (cZ : ClassId) (cG : ClassId) (cR : ClassId) (ad : Nat → Nat) (th : Int) (tb : Int → Int) (fi : Int → Int) (se : Int → Int) (lf : Int → Int) (ct : Int → Int) (ln : Int) (tx : Int → Int) (kl : Int → Int) (kp : Int → Int) (fl : Int) (fo : Int → Int) (ol : Int) (ot : Int → Int) (pl : Int → Int) (ky : Int) (nu : Int → Int) (yk : Int) (yn : Int → Int) (lc : Int → Int) (fw : Int → Int) (sd : Int → Int) (lw : Int → Int) (od : Int → Int) (sz : Nat) (i : Int) (wt : Int) (hT : TBK tb) (hi : -2147483648 ≤ i ∧ i < 2147483648) (hw9 : -2147483648 ≤ wt ∧ wt < 2147483648) (hl9 : 0 ≤ ln ∧ ln ≤ 40) (htx : ∀ j, 0 ≤ j → j < ln → 0 ≤ tx j ∧ tx j < 75) : Met l yM_level wsM_level ({ frames := 4, cells := 0, slots := 0, locals := 91 }) (va_Pc [.ref (ad 0), .int (iv i), .int (iv wt)] (jPre (dC, dI) (jT cI cZ cG cR) (pM cI cZ cG cR ad th tb fi se lf ct ln tx kl kp fl fo ol ot pl ky nu yk yn lc fw sd lw od) sz)) (va_Qi (fun (r0 : Int32) (u : Int × Int × (Int → Int) × (Int → Int)) => r0 = iv u.1 ∧ (((i < 0 ∨ ln ≤ i) ∧ u.2.1 = 1) ∨ (0 ≤ i ∧ i < ln ∧ u.2.1 = 0 ∧ u.1 = lvf (szM tb) tx ln wt i))) (fun u => jEnd (dC, dI) (jT cI cZ cG cR) (va_A (pM cI cZ cG cR ad th tb fi se lf ct ln tx kl kp fl fo ol ot pl ky nu yk yn lc fw sd lw od) sz) (pM cI cZ cG cR ad u.2.1 tb fi se lf ct ln tx kl kp fl fo ol ot pl ky nu yk yn lc fw u.2.2.1 u.2.2.2 od)) (va_A (pM cI cZ cG cR ad th tb fi se lf ct ln tx kl kp fl fo ol ot pl ky nu yk yn lc fw sd lw od) sz)) 0 0 (va_A (pM cI cZ cG cR ad th tb fi se lf ct ln tx kl kp fl fo ol ot pl ky nu yk yn lc fw sd lw od) sz) := by
  refine jv_mi (cc := cM_level) (maxL := 3) (by decide) rfl (Nat.le_of_ble_eq_true rfl) ?_
  intro p0 e0 s0 m0 a0 b0 t0 c0 R0 Q0 A0 ls gX gB hts hown hml hRf hRl hA hK hret hl hP hD hS
  have hown : s0.vm.findClass "TextPipelineModel" = some m0.cls := hown
  have hw0 : ∀ w ∈ WS0, w.before a0 s0 = true := fun w h => hts w (List.mem_cons_of_mem _ h)
  have hl : lv_has ls 3 [(0, .ref (ad 0)), (1, .int (iv i)), (2, .int (iv wt))] := hl
  have hRf : 4 ≤ R0.frames := hRf
  have hRl : 91 ≤ R0.locals := hRl
  refine lv_aload_n (pc := 0) gX gB dM_level_0 rfl (lv_at hl 0 rfl) ?_
  refine lv_aload_n (pc := 1) gX gB dM_level_1 rfl (lv_at hl 0 rfl) ?_
  refine lv_iload_n (pc := 2) gX gB dM_level_2 rfl (lv_at hl 1 rfl) ?_
  refine lv_aload_n (pc := 3) gX gB dM_level_3 rfl (lv_at hl 0 rfl) ?_
  refine va_get (pc := 4) (D := (dC, dI)) (ci := 5) (v := .int (iv ln)) (C := RM) (T := TM) (N := 24) gX gB hw0 inM hown hK hP 0 rfl rfl 6 (by decide) (hw0 _ q657) (fun _ h9 => h9) rfl dM_level_4 ?_
  refine jv_ri (pc := 7) (wr := []) (wn := fun u : Int => (pM cI cZ cG cR ad th tb fi se lf ct ln tx kl kp fl fo ol ot pl ky nu yk yn lc fw sd lw od)) (va_runV (rest := [.ref (ad 0)]) ⟨gX, gB, hml, hown, hw0⟩ (c_M_noPlace l dC dI cI cZ cG cR ad th tb fi se lf ct ln tx kl kp fl fo ol ot pl ky nu yk yn lc fw sd lw od _ i ln (by omega) (by omega)) (jcV hw0 kM_noPlace q752 rfl rfl ⟨Nat.le_trans (Nat.le_of_ble_eq_true rfl) hRf, Nat.le_trans (Nat.le_of_ble_eq_true rfl) hRl⟩) (jv_preV (ci := 5) (q0 := 0) hK hP hD [0, 1, 2, 3, 4, 5, 6, 7, 8, 9, 10, 11, 12, 13, 14, 15, 16, 17, 18] rfl (by decide) rfl rfl) rfl rfl hl.1 rfl (lv_room (Nat.le_of_ble_eq_true rfl)) dM_level_7 ⟨Nat.zero_le _, Nat.zero_le _⟩) hP hD hS hA [0, 1, 2, 3, 4, 5, 6, 7, 8, 9, 10, 11, 12, 13, 14, 15, 16, 17, 18] [] [0, 1, 2, 3, 4, 5, 6, 7, 8, 9, 10, 11, 12, 13, 14, 15, 16, 17, 18] rfl rfl (by decide) (by decide) (by decide) (fun _ => rfl) (fun r0 u H locs hw7 hP hD hS => ?_)
  obtain ⟨r_7, hu⟩ : ∃ z, z = u := ⟨_, rfl⟩; subst hu
  obtain ⟨rfl, hw7⟩ := hw7
  refine jv_if_eq (pc := 10) (tgt := 17) gX gB dM_level_10 (by decide) (by omega) (fun h1 => ?_) (fun h1 => ?_)
  · skip
    refine lv_iconst (pc := 17) (v := iv 0) gX gB dM_level_17 rfl ?_
    refine jv_put (pc := 18) (D := (dC, dI)) (ci := 5) (v := .int (iv 0)) (ty := .int) (C := RM) (T := TM) (N := 24) (ws' := (pM cI cZ cG cR ad 0 tb fi se lf ct ln tx kl kp fl fo ol ot pl ky nu yk yn lc fw sd lw od)) gX gB hw0 inM tyM tyM_ok nmM hown hK hP hD hS 0 rfl rfl 0 (by decide) (hw0 _ q651) (fun _ h9 => h9) rfl (by decide +kernel) rfl rfl (Nat.le_of_ble_eq_true rfl) dM_level_18 rfl (fun H locs hP hD hS => ?_)
    refine lv_aload_n (pc := 21) gX gB dM_level_21 rfl (lv_at hl 0 rfl) ?_
    refine va_get (pc := 22) (D := (dC, dI)) (ci := 5) (v := .int (iv 0)) (C := RM) (T := TM) (N := 24) gX gB hw0 inM hown hK hP 0 rfl rfl 0 (by decide) (hw0 _ q651) (fun _ h9 => h9) rfl dM_level_22 ?_
    refine jv_if_eq (pc := 25) (tgt := 30) gX gB dM_level_25 (by decide) (by decide) (fun h2 => ?_) (fun h2 => ?_)
    rotate_left
    · exact absurd h2 (by decide)
    refine lv_aload_n (pc := 30) gX gB dM_level_30 rfl (lv_at hl 0 rfl) ?_
    refine lv_iload_n (pc := 31) gX gB dM_level_31 rfl (lv_at hl 2 rfl) ?_
    refine jv_rv (pc := 32) (wr := []) (wn := fun u : (Int → Int) × (Int → Int) => (pM cI cZ cG cR ad 0 tb fi se lf ct ln tx kl kp fl fo ol ot pl ky nu yk yn lc fw u.1 u.2 od)) (va_runV (rest := []) ⟨gX, gB, hml, hown, hw0⟩ (c_M_findLevels l dC dI cI cZ cG cR ad 0 tb fi se lf ct ln tx kl kp fl fo ol ot pl ky nu yk yn lc fw sd lw od _ wt (by omega) (by omega) (by omega) (by omega)) (jcV hw0 kM_findLevels q868 rfl rfl ⟨Nat.le_trans (Nat.le_of_ble_eq_true rfl) hRf, Nat.le_trans (Nat.le_of_ble_eq_true rfl) hRl⟩) (jv_preV (ci := 5) (q0 := 0) hK hP hD [0, 1, 2, 3, 4, 5, 6, 7, 8, 9, 10, 11, 12, 13, 14, 15, 16, 17, 18] rfl (by decide) rfl rfl) rfl rfl hl.1 rfl (lv_room (Nat.le_of_ble_eq_true rfl)) dM_level_32 ⟨Nat.zero_le _, Nat.zero_le _⟩) hP hD hS hA [0, 1, 2, 3, 4, 5, 6, 7, 8, 9, 10, 11, 12, 13, 14, 15, 16, 17, 18] [] [0, 1, 2, 3, 4, 5, 6, 7, 8, 9, 10, 11, 12, 13, 14, 15, 16, 17, 18] rfl rfl (by decide) (by decide) (by decide) (fun _ => rfl) (fun u H locs hw32 hP hD hS => ?_)
    obtain ⟨sd_32, lw_32⟩ := u
    dsimp only at hw32 hP hD
    refine lv_aload_n (pc := 35) gX gB dM_level_35 rfl (lv_at hl 0 rfl) ?_
    refine va_get (pc := 36) (D := (dC, dI)) (ci := 5) (v := .ref (ad 22)) (C := RM) (T := TM) (N := 24) gX gB hw0 inM hown hK hP 0 rfl rfl 22 (by decide) (hw0 _ q673) (fun _ h9 => h9) rfl dM_level_36 ?_
    refine lv_iload_n (pc := 39) gX gB dM_level_39 rfl (lv_at hl 1 rfl) ?_
    refine jv_iald (pc := 40) gX gB hK hP 17 0 rfl rfl (by decide) (by omega) dM_level_40 ?_
    exact hret _ (lw_32 i, 0, sd_32, lw_32) dM_level_41 ⟨rfl, by first | (dsimp only; exact Or.inr ⟨by omega, by omega, rfl, (hw32 i (by omega) (by omega)).1⟩) | (exact Or.inr ⟨by omega, by omega, rfl, (hw32 i (by omega) (by omega)).1⟩)⟩ hP hD hS
  refine lv_iconst (pc := 13) (v := iv 1) gX gB dM_level_13 rfl ?_
  refine lv_goto (pc := 14) (tgt := 18) gX gB dM_level_14 (by decide) ?_
  refine jv_put (pc := 18) (D := (dC, dI)) (ci := 5) (v := .int (iv 1)) (ty := .int) (C := RM) (T := TM) (N := 24) (ws' := (pM cI cZ cG cR ad 1 tb fi se lf ct ln tx kl kp fl fo ol ot pl ky nu yk yn lc fw sd lw od)) gX gB hw0 inM tyM tyM_ok nmM hown hK hP hD hS 0 rfl rfl 0 (by decide) (hw0 _ q651) (fun _ h9 => h9) rfl (by decide +kernel) rfl rfl (Nat.le_of_ble_eq_true rfl) dM_level_18 rfl (fun H locs hP hD hS => ?_)
  refine lv_aload_n (pc := 21) gX gB dM_level_21 rfl (lv_at hl 0 rfl) ?_
  refine va_get (pc := 22) (D := (dC, dI)) (ci := 5) (v := .int (iv 1)) (C := RM) (T := TM) (N := 24) gX gB hw0 inM hown hK hP 0 rfl rfl 0 (by decide) (hw0 _ q651) (fun _ h9 => h9) rfl dM_level_22 ?_
  refine jv_if_eq (pc := 25) (tgt := 30) gX gB dM_level_25 (by decide) (by decide) (fun h3 => ?_) (fun h3 => ?_)
  · exact absurd h3 (by decide)
  refine lv_iconst (pc := 28) (v := iv 0) gX gB dM_level_28 rfl ?_
  exact hret _ (0, 1, sd, lw) dM_level_29 ⟨rfl, by first | (dsimp only; exact Or.inl ⟨by omega, rfl⟩) | (exact Or.inl ⟨by omega, rfl⟩)⟩ hP hD hS
