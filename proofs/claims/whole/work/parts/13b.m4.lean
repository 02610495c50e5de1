def BR (tb fi se lf tx : Int → Int) (n j : Int) : List Int := if j = 0 then FM (rkM tb) fi se tx n else jnL (rkM tb) (jnM tb fi se lf) [] (FM (rkM tb) fi se tx n).reverse
set_option maxRecDepth 100000 in
set_option maxHeartbeats 1000000 in
theorem c_M_bring (l : Launch) (dC : Nat → ClassId) (dI : Nat → Nat → Nat) (cI : ClassId) (cZ : ClassId) (cG : ClassId) (cR : ClassId) (ad : Nat → Nat) (th : Int) (tb : Int → Int) (fi : Int → Int) (se : Int → Int) (lf : Int → Int) (ct : Int → Int) (ln : Int) (tx : Int → Int) (kl : Int → Int) (kp : Int → Int) (fl : Int) (fo : Int → Int) (ol : Int) (ot : Int → Int) (pl : Int → Int) (ky : Int) (nu : Int → Int) (yk : Int) (yn : Int → Int) (lc : Int → Int) (fw : Int → Int) (sd : Int → Int) (lw : Int → Int) (od : Int → Int) (sz : Nat) (jn : Int) (hj : jn = 0 ∨ jn = 1) (hT : TBK tb) (hv : vpt fi se) (hs : SHT fi se) (hlf : ∀ j, 0 ≤ j → j < 40 → lf j = 0 ∨ lf j = 1) (hl9 : 0 ≤ ln ∧ ln ≤ 40) (htx : ∀ j, 0 ≤ j → j < ln → 0 ≤ tx j ∧ tx j < 75) : Met l yM_bring wsM_bring ({ frames := 4, cells := 0, slots := 0, locals := 91 }) (va_Pc [.ref (ad 0), .int (iv jn)] (jPre (dC, dI) (jT cI cZ cG cR) (pM cI cZ cG cR ad th tb fi se lf ct ln tx kl kp fl fo ol ot pl ky nu yk yn lc fw sd lw od) sz)) (va_Qi (fun (r0 : Int32) (u : Int × Int × Int × (Int → Int) × Int × (Int → Int) × (Int → Int)) => r0 = iv u.1 ∧ ((40 < (BR tb fi se lf tx ln jn).length ∧ u.2.1 = 1 ∧ u.2.2.1 = ln ∧ u.2.2.2.1 = tx) ∨ ((BR tb fi se lf tx ln jn).length ≤ 40 ∧ u.2.1 = 0 ∧ u.2.2.1 = (BR tb fi se lf tx ln jn).length ∧ rsg u.2.2.2.1 u.2.2.1.toNat = BR tb fi se lf tx ln jn ∧ u.1 = u.2.2.1))) (fun u => jEnd (dC, dI) (jT cI cZ cG cR) (va_A (pM cI cZ cG cR ad th tb fi se lf ct ln tx kl kp fl fo ol ot pl ky nu yk yn lc fw sd lw od) sz) (pM cI cZ cG cR ad u.2.1 tb fi se lf ct u.2.2.1 u.2.2.2.1 kl kp u.2.2.2.2.1 u.2.2.2.2.2.1 ol ot u.2.2.2.2.2.2 ky nu yk yn lc fw sd lw od)) (va_A (pM cI cZ cG cR ad th tb fi se lf ct ln tx kl kp fl fo ol ot pl ky nu yk yn lc fw sd lw od) sz)) 0 0 (va_A (pM cI cZ cG cR ad th tb fi se lf ct ln tx kl kp fl fo ol ot pl ky nu yk yn lc fw sd lw od) sz) := by
  refine jv_mi (cc := cM_bring) (maxL := 3) (by decide) rfl (Nat.le_of_ble_eq_true rfl) ?_
  intro p0 e0 s0 m0 a0 b0 t0 c0 R0 Q0 A0 ls gX gB hts hown hml hRf hRl hA hK hret hl hP hD hS
  have hown : s0.vm.findClass "TextPipelineModel" = some m0.cls := hown
  have hw0 : ∀ w ∈ WS0, w.before a0 s0 = true := fun w h => hts w (List.mem_cons_of_mem _ h)
  have hl : lv_has ls 3 [(0, .ref (ad 0)), (1, .int (iv jn))] := hl
  have hRf : 4 ≤ R0.frames := hRf
  have hRl : 91 ≤ R0.locals := hRl
  refine lv_aload_n (pc := 0) gX gB dM_bring_0 rfl (lv_at hl 0 rfl) ?_
  refine jv_rv (pc := 1) (wr := []) (wn := fun u : Int × (Int → Int) × (Int → Int) => (pM cI cZ cG cR ad th tb fi se lf ct ln tx kl kp u.1 u.2.1 ol ot u.2.2 ky nu yk yn lc fw sd lw od)) (va_runV (rest := []) ⟨gX, gB, hml, hown, hw0⟩ (c_M_partText l dC dI cI cZ cG cR ad th tb fi se lf ct ln tx kl kp fl fo ol ot pl ky nu yk yn lc fw sd lw od _  (by omega) (by omega) (by omega) (by omega) (by omega)) (jcV hw0 kM_partText q760 rfl rfl ⟨Nat.le_trans (Nat.le_of_ble_eq_true rfl) hRf, Nat.le_trans (Nat.le_of_ble_eq_true rfl) hRl⟩) (jv_preV (ci := 5) (q0 := 0) hK hP hD [0, 1, 2, 3, 4, 5, 6, 7, 8, 9, 10, 11, 12, 13, 14, 15, 16, 17, 18] rfl (by decide) rfl rfl) rfl rfl hl.1 rfl (lv_room (Nat.le_of_ble_eq_true rfl)) dM_bring_1 ⟨Nat.zero_le _, Nat.zero_le _⟩) hP hD hS hA [0, 1, 2, 3, 4, 5, 6, 7, 8, 9, 10, 11, 12, 13, 14, 15, 16, 17, 18] [] [0, 1, 2, 3, 4, 5, 6, 7, 8, 9, 10, 11, 12, 13, 14, 15, 16, 17, 18] rfl rfl (by decide) (by decide) (by decide) (fun _ => rfl) (fun u H locs hw1 hP hD hS => ?_)
  obtain ⟨fl_1, fo_1, pl_1⟩ := u
  dsimp only at hw1 hP hD
  have hfo4 : ∀ j, 0 ≤ j → j < fl_1 → 0 ≤ fo_1 j ∧ fo_1 j < 75 := fun j a b => by have h9 := rsg_in (g := fo_1) (n := fl_1.toNat) (j := j) a (by omega); rw [hw1.2.2] at h9; have := FM_mem hv htx _ h9; omega
  have cut12 : ∀ (fl1 : Int) (fo1 : Int → Int) (ls : Array Slot) (H : Heap) (locs : List Loc), (0 ≤ fl1 ∧ fl1 ≤ 160) → (rsg fo1 fl1.toNat = BR tb fi se lf tx ln jn) → lv_has ls 3 [(0, .ref (ad 0)), (1, .int (iv jn))] → va_P (dC, dI) vwCl (pM cI cZ cG cR ad th tb fi se lf ct ln tx kl kp fl1 fo1 ol ot pl_1 ky nu yk yn lc fw sd lw od) H → va_D A0 (pM cI cZ cG cR ad th tb fi se lf ct ln tx kl kp fl1 fo1 ol ot pl_1 ky nu yk yn lc fw sd lw od) → va_S A0 s0.heap H locs → W p0 l e0 R0 s0 m0 a0 b0 t0 c0 H locs 0 0 Q0 (F0 m0 12 ls []) := by
    intro fl1 fo1 ls H locs hf1 he1 hl hP hD hS
    refine lv_aload_n (pc := 12) gX gB dM_bring_12 rfl (lv_at hl 0 rfl) ?_
    have hl1 : (BR tb fi se lf tx ln jn).length = fl1.toNat := by rw [← he1, rsg_len]
    refine lv_aload_n (pc := 13) gX gB dM_bring_13 rfl (lv_at hl 0 rfl) ?_
    refine va_get (pc := 14) (D := (dC, dI)) (ci := 5) (v := .int (iv fl1)) (C := RM) (T := TM) (N := 24) gX gB hw0 inM hown hK hP 0 rfl rfl 10 (by decide) (hw0 _ q661) (fun _ h9 => h9) rfl dM_bring_14 ?_
    refine lv_bipush (pc := 17) (v := iv 40) gX gB dM_bring_17 (by decide) ?_
    refine jv_icmp_le (pc := 19) (tgt := 26) gX gB dM_bring_19 (by decide) (by omega) (by decide) (fun h1 => ?_) (fun h1 => ?_)
    · skip
      refine lv_iconst (pc := 26) (v := iv 0) gX gB dM_bring_26 rfl ?_
      refine jv_put (pc := 27) (D := (dC, dI)) (ci := 5) (v := .int (iv 0)) (ty := .int) (C := RM) (T := TM) (N := 24) (ws' := (pM cI cZ cG cR ad 0 tb fi se lf ct ln tx kl kp fl1 fo1 ol ot pl_1 ky nu yk yn lc fw sd lw od)) gX gB hw0 inM tyM tyM_ok nmM hown hK hP hD hS 0 rfl rfl 0 (by decide) (hw0 _ q651) (fun _ h9 => h9) rfl (by decide +kernel) rfl rfl (Nat.le_of_ble_eq_true rfl) dM_bring_27 rfl (fun H locs hP hD hS => ?_)
      refine lv_aload_n (pc := 30) gX gB dM_bring_30 rfl (lv_at hl 0 rfl) ?_
      refine va_get (pc := 31) (D := (dC, dI)) (ci := 5) (v := .int (iv 0)) (C := RM) (T := TM) (N := 24) gX gB hw0 inM hown hK hP 0 rfl rfl 0 (by decide) (hw0 _ q651) (fun _ h9 => h9) rfl dM_bring_31 ?_
      refine jv_if_eq (pc := 34) (tgt := 39) gX gB dM_bring_34 (by decide) (by decide) (fun h2 => ?_) (fun h2 => ?_)
      rotate_left
      · exact absurd h2 (by decide)
      refine lv_aload_n (pc := 39) gX gB dM_bring_39 rfl (lv_at hl 0 rfl) ?_
      refine lv_aload_n (pc := 40) gX gB dM_bring_40 rfl (lv_at hl 0 rfl) ?_
      refine va_get (pc := 41) (D := (dC, dI)) (ci := 5) (v := .int (iv fl1)) (C := RM) (T := TM) (N := 24) gX gB hw0 inM hown hK hP 0 rfl rfl 10 (by decide) (hw0 _ q661) (fun _ h9 => h9) rfl dM_bring_41 ?_
      refine jv_put (pc := 44) (D := (dC, dI)) (ci := 5) (v := .int (iv fl1)) (ty := .int) (C := RM) (T := TM) (N := 24) (ws' := (pM cI cZ cG cR ad 0 tb fi se lf ct fl1 tx kl kp fl1 fo1 ol ot pl_1 ky nu yk yn lc fw sd lw od)) gX gB hw0 inM tyM tyM_ok nmM hown hK hP hD hS 0 rfl rfl 6 (by decide) (hw0 _ q657) (fun _ h9 => h9) rfl (by decide +kernel) rfl rfl (Nat.le_of_ble_eq_true rfl) dM_bring_44 rfl (fun H locs hP hD hS => ?_)
      refine lv_iconst (pc := 47) (v := iv 0) gX gB dM_bring_47 rfl ?_
      refine lv_istore_n (pc := 48) (lv' := [(2, .int (iv 0)), (0, .ref (ad 0)), (1, .int (iv jn))]) gX gB dM_bring_48 rfl hl (by decide) rfl (fun ls hl => ?_)
      have cut49 : ∀ (n0 : Nat) (i : Int) (tx1 : Int → Int) (ls : Array Slot) (H : Heap) (locs : List Loc), (0 ≤ i ∧ i ≤ fl1) → (∀ j, 0 ≤ j → j < i → tx1 j = fo1 j) → ((fl1 - i : Int).toNat < n0) → lv_has ls 3 [(0, .ref (ad 0)), (1, .int (iv jn)), (2, .int (iv i))] → va_P (dC, dI) vwCl (pM cI cZ cG cR ad 0 tb fi se lf ct fl1 tx1 kl kp fl1 fo1 ol ot pl_1 ky nu yk yn lc fw sd lw od) H → va_D A0 (pM cI cZ cG cR ad 0 tb fi se lf ct fl1 tx1 kl kp fl1 fo1 ol ot pl_1 ky nu yk yn lc fw sd lw od) → va_S A0 s0.heap H locs → W p0 l e0 R0 s0 m0 a0 b0 t0 c0 H locs 0 0 Q0 (F0 m0 49 ls []) := by
        intro n0
        induction n0 with
        | zero => intro i tx1 ls H locs hi hc1 hm hl hP hD hS; exact absurd hm (Nat.not_lt_zero _)
        | succ n0 ih49 =>
          intro i tx1 ls H locs hi hc1 hm49 hl hP hD hS
          refine lv_iload_n (pc := 49) gX gB dM_bring_49 rfl (lv_at hl 2 rfl) ?_
          refine lv_aload_n (pc := 50) gX gB dM_bring_50 rfl (lv_at hl 0 rfl) ?_
          refine va_get (pc := 51) (D := (dC, dI)) (ci := 5) (v := .int (iv fl1)) (C := RM) (T := TM) (N := 24) gX gB hw0 inM hown hK hP 0 rfl rfl 6 (by decide) (hw0 _ q657) (fun _ h9 => h9) rfl dM_bring_51 ?_
          refine jv_icmp_ge (pc := 54) (tgt := 75) gX gB dM_bring_54 (by decide) (by omega) (by omega) (fun h3 => ?_) (fun h3 => ?_)
          · skip
            refine lv_aload_n (pc := 75) gX gB dM_bring_75 rfl (lv_at hl 0 rfl) ?_
            refine va_get (pc := 76) (D := (dC, dI)) (ci := 5) (v := .int (iv fl1)) (C := RM) (T := TM) (N := 24) gX gB hw0 inM hown hK hP 0 rfl rfl 6 (by decide) (hw0 _ q657) (fun _ h9 => h9) rfl dM_bring_76 ?_
            exact hret _ (fl1, 0, fl1, tx1, fl1, fo1, pl_1) dM_bring_79 ⟨rfl, by first | (dsimp only; exact Or.inr ⟨by omega, rfl, by omega, by rw [← he1]; exact rsg_congr _ (fun j a b => hc1 j a (by omega)), rfl⟩) | (exact Or.inr ⟨by omega, rfl, by omega, by rw [← he1]; exact rsg_congr _ (fun j a b => hc1 j a (by omega)), rfl⟩)⟩ hP hD hS
          refine lv_aload_n (pc := 57) gX gB dM_bring_57 rfl (lv_at hl 0 rfl) ?_
          refine va_get (pc := 58) (D := (dC, dI)) (ci := 5) (v := .ref (ad 7)) (C := RM) (T := TM) (N := 24) gX gB hw0 inM hown hK hP 0 rfl rfl 7 (by decide) (hw0 _ q658) (fun _ h9 => h9) rfl dM_bring_58 ?_
          refine lv_iload_n (pc := 61) gX gB dM_bring_61 rfl (lv_at hl 2 rfl) ?_
          refine lv_aload_n (pc := 62) gX gB dM_bring_62 rfl (lv_at hl 0 rfl) ?_
          refine va_get (pc := 63) (D := (dC, dI)) (ci := 5) (v := .ref (ad 11)) (C := RM) (T := TM) (N := 24) gX gB hw0 inM hown hK hP 0 rfl rfl 11 (by decide) (hw0 _ q662) (fun _ h9 => h9) rfl dM_bring_63 ?_
          refine lv_iload_n (pc := 66) gX gB dM_bring_66 rfl (lv_at hl 2 rfl) ?_
          refine jv_iald (pc := 67) gX gB hK hP 9 0 rfl rfl (by decide) (by omega) dM_bring_67 ?_
          refine jv_iast (pc := 68) (ws' := (pM cI cZ cG cR ad 0 tb fi se lf ct fl1 (uI tx1 i (fo1 i)) kl kp fl1 fo1 ol ot pl_1 ky nu yk yn lc fw sd lw od)) gX gB hK hP hD hS 6 0 rfl rfl (by decide) (by omega) dM_bring_68 rfl (fun H locs hP hD hS => ?_)
          refine jv_iinc (pc := 69) (k := 2) (x := i) (n := 1) (lv' := [(2, .int (iv (i + 1))), (0, .ref (ad 0)), (1, .int (iv jn))]) gX gB dM_bring_69 hl rfl (by decide) rfl (fun ls hl => ?_)
          refine lv_goto (pc := 72) (tgt := 49) gX gB dM_bring_72 (by decide) ?_
          exact ih49 (i + 1) (uI tx1 i (fo1 i)) _ _ _ (by omega) (by intro j a b; by_cases e : j = i; (rw [uI_e e, e]); (rw [uI_n e]; exact hc1 j a (by omega))) (by omega) (lv_sub hl [1, 2, 0] rfl) hP hD hS
      exact cut49 (((fl1 - 0 : Int).toNat) + 1) 0 tx _ _ _ (by omega) (by intro j a b; omega) (Nat.lt_succ_self _) (lv_sub hl [1, 2, 0] rfl) hP hD hS
    refine lv_iconst (pc := 22) (v := iv 1) gX gB dM_bring_22 rfl ?_
    refine lv_goto (pc := 23) (tgt := 27) gX gB dM_bring_23 (by decide) ?_
    refine jv_put (pc := 27) (D := (dC, dI)) (ci := 5) (v := .int (iv 1)) (ty := .int) (C := RM) (T := TM) (N := 24) (ws' := (pM cI cZ cG cR ad 1 tb fi se lf ct ln tx kl kp fl1 fo1 ol ot pl_1 ky nu yk yn lc fw sd lw od)) gX gB hw0 inM tyM tyM_ok nmM hown hK hP hD hS 0 rfl rfl 0 (by decide) (hw0 _ q651) (fun _ h9 => h9) rfl (by decide +kernel) rfl rfl (Nat.le_of_ble_eq_true rfl) dM_bring_27 rfl (fun H locs hP hD hS => ?_)
    refine lv_aload_n (pc := 30) gX gB dM_bring_30 rfl (lv_at hl 0 rfl) ?_
    refine va_get (pc := 31) (D := (dC, dI)) (ci := 5) (v := .int (iv 1)) (C := RM) (T := TM) (N := 24) gX gB hw0 inM hown hK hP 0 rfl rfl 0 (by decide) (hw0 _ q651) (fun _ h9 => h9) rfl dM_bring_31 ?_
    refine jv_if_eq (pc := 34) (tgt := 39) gX gB dM_bring_34 (by decide) (by decide) (fun h4 => ?_) (fun h4 => ?_)
    · exact absurd h4 (by decide)
    refine lv_iconst (pc := 37) (v := iv 0) gX gB dM_bring_37 rfl ?_
    exact hret _ (0, 1, ln, tx, fl1, fo1, pl_1) dM_bring_38 ⟨rfl, by first | (dsimp only; exact Or.inl ⟨by omega, rfl, rfl, rfl⟩) | (exact Or.inl ⟨by omega, rfl, rfl, rfl⟩)⟩ hP hD hS
  refine lv_iload_n (pc := 4) gX gB dM_bring_4 rfl (lv_at hl 1 rfl) ?_
  refine jv_if_eq (pc := 5) (tgt := 12) gX gB dM_bring_5 (by decide) (by omega) (fun h5 => ?_) (fun h5 => ?_)
  · skip
    exact cut12 fl_1 fo_1 _ _ _ (by omega) (by rw [hw1.2.2]; unfold BR; rw [if_pos (by omega)]) hl hP hD hS
  refine lv_aload_n (pc := 8) gX gB dM_bring_8 rfl (lv_at hl 0 rfl) ?_
  refine jv_rv (pc := 9) (wr := []) (wn := fun u : Int × (Int → Int) => (pM cI cZ cG cR ad th tb fi se lf ct ln tx kl kp u.1 u.2 ol ot pl_1 ky nu yk yn lc fw sd lw od)) (va_runV (rest := []) ⟨gX, gB, hml, hown, hw0⟩ (c_M_joinForm l dC dI cI cZ cG cR ad th tb fi se lf ct ln tx kl kp fl_1 fo_1 ol ot pl_1 ky nu yk yn lc fw sd lw od _  (by omega) (by omega) (by omega) (by omega) (by exact hfo4)) (jcV hw0 kM_joinForm q784 rfl rfl ⟨Nat.le_trans (Nat.le_of_ble_eq_true rfl) hRf, Nat.le_trans (Nat.le_of_ble_eq_true rfl) hRl⟩) (jv_preV (ci := 5) (q0 := 0) hK hP hD [0, 1, 2, 3, 4, 5, 6, 7, 8, 9, 10, 11, 12, 13, 14, 15, 16, 17, 18] rfl (by decide) rfl rfl) rfl rfl hl.1 rfl (lv_room (Nat.le_of_ble_eq_true rfl)) dM_bring_9 ⟨Nat.zero_le _, Nat.zero_le _⟩) hP hD hS hA [0, 1, 2, 3, 4, 5, 6, 7, 8, 9, 10, 11, 12, 13, 14, 15, 16, 17, 18] [] [0, 1, 2, 3, 4, 5, 6, 7, 8, 9, 10, 11, 12, 13, 14, 15, 16, 17, 18] rfl rfl (by decide) (by decide) (by decide) (fun _ => rfl) (fun u H locs hw9 hP hD hS => ?_)
  obtain ⟨fl_9, fo_9⟩ := u
  dsimp only at hw9 hP hD
  exact cut12 fl_9 fo_9 _ _ _ (by omega) (by rw [hw9.2.2.1, sg_rsg, hw1.2.2]; unfold BR; rw [if_neg (by omega)]) hl hP hD hS
set_option maxRecDepth 100000 in
set_option maxHeartbeats 1000000 in
theorem c_M_pictureBefore (l : Launch) (dC : Nat → ClassId) (dI : Nat → Nat → Nat) (cI : ClassId) (cZ : ClassId) (cG : ClassId) (cR : ClassId) (ad : Nat → Nat) (th : Int) (tb : Int → Int) (fi : Int → Int) (se : Int → Int) (lf : Int → Int) (ct : Int → Int) (ln : Int) (tx : Int → Int) (kl : Int → Int) (kp : Int → Int) (fl : Int) (fo : Int → Int) (ol : Int) (ot : Int → Int) (pl : Int → Int) (ky : Int) (nu : Int → Int) (yk : Int) (yn : Int → Int) (lc : Int → Int) (fw : Int → Int) (sd : Int → Int) (lw : Int → Int) (od : Int → Int) (sz : Nat) (i : Int) (hT : TBK tb) (hi : 0 ≤ i ∧ i ≤ 40) (htx : ∀ j, 0 ≤ j → j < i → 0 ≤ tx j ∧ tx j < 75) : Met l yM_pictureBefore wsM_pictureBefore ({ frames := 2, cells := 0, slots := 0, locals := 43 }) (va_Pc [.ref (ad 0), .int (iv i)] (jPre (dC, dI) (jT cI cZ cG cR) (pM cI cZ cG cR ad th tb fi se lf ct ln tx kl kp fl fo ol ot pl ky nu yk yn lc fw sd lw od) sz)) (va_Qi (fun (r0 : Int32) (u : Int) => r0 = iv u ∧ ((u = 0 ∨ u = 1) ∧ u = pbf (czM tb) tx i.toNat)) (fun u => jEnd (dC, dI) (jT cI cZ cG cR) (va_A (pM cI cZ cG cR ad th tb fi se lf ct ln tx kl kp fl fo ol ot pl ky nu yk yn lc fw sd lw od) sz) (pM cI cZ cG cR ad th tb fi se lf ct ln tx kl kp fl fo ol ot pl ky nu yk yn lc fw sd lw od)) (va_A (pM cI cZ cG cR ad th tb fi se lf ct ln tx kl kp fl fo ol ot pl ky nu yk yn lc fw sd lw od) sz)) 0 0 (va_A (pM cI cZ cG cR ad th tb fi se lf ct ln tx kl kp fl fo ol ot pl ky nu yk yn lc fw sd lw od) sz) := by
  refine jv_mz (cc := cM_pictureBefore) (maxL := 3) (by decide) rfl (Nat.le_of_ble_eq_true rfl) ?_
  intro p0 e0 s0 m0 a0 b0 t0 c0 R0 Q0 A0 ls gX gB hts hown hml hRf hRl hA hK hret hl hP hD hS
  have hown : s0.vm.findClass "TextPipelineModel" = some m0.cls := hown
  have hw0 : ∀ w ∈ WS0, w.before a0 s0 = true := fun w h => hts w (List.mem_cons_of_mem _ h)
  have hl : lv_has ls 3 [(0, .ref (ad 0)), (1, .int (iv i))] := hl
  have hRf : 2 ≤ R0.frames := hRf
  have hRl : 43 ≤ R0.locals := hRl
  refine lv_iload_n (pc := 0) gX gB dM_pictureBefore_0 rfl (lv_at hl 1 rfl) ?_
  refine lv_iconst (pc := 1) (v := iv 1) gX gB dM_pictureBefore_1 rfl ?_
  refine jv_isub (pc := 2) (x := i) (y := 1) gX gB dM_pictureBefore_2 ?_
  refine lv_istore_n (pc := 3) (lv' := [(2, .int (iv (i - 1))), (0, .ref (ad 0)), (1, .int (iv i))]) gX gB dM_pictureBefore_3 rfl hl (by decide) rfl (fun ls hl => ?_)
  have cut28 : ∀ (s2 : Int) (ls : Array Slot) (H : Heap) (locs : List Loc), (-1 ≤ s2 ∧ s2 < i) → (pbf (czM tb) tx (s2 + 1).toNat = pbf (czM tb) tx i.toNat) → (0 ≤ s2 → czM tb (tx s2) ≠ 4) → lv_has ls 3 [(0, .ref (ad 0)), (2, .int (iv s2))] → va_P (dC, dI) vwCl (pM cI cZ cG cR ad th tb fi se lf ct ln tx kl kp fl fo ol ot pl ky nu yk yn lc fw sd lw od) H → va_D A0 (pM cI cZ cG cR ad th tb fi se lf ct ln tx kl kp fl fo ol ot pl ky nu yk yn lc fw sd lw od) → va_S A0 s0.heap H locs → W p0 l e0 R0 s0 m0 a0 b0 t0 c0 H locs 0 0 Q0 (F0 m0 28 ls []) := by
    intro s2 ls H locs hs2 hq2 hne hl hP hD hS
    refine lv_iload_n (pc := 28) gX gB dM_pictureBefore_28 rfl (lv_at hl 1 rfl) ?_
    refine jv_if_lt (pc := 29) (tgt := 51) gX gB dM_pictureBefore_29 (by decide) (by omega) (fun h1 => ?_) (fun h1 => ?_)
    · skip
      refine lv_iconst (pc := 51) (v := iv 0) gX gB dM_pictureBefore_51 rfl ?_
      exact hret _ (0) dM_pictureBefore_52 (Or.inl rfl) ⟨rfl, by first | (refine ⟨Or.inl rfl, ?_⟩; rw [← hq2, show s2 = -1 by omega]; rfl) | (refine ⟨Or.inl rfl, ?_⟩; rw [← hq2, pbf_s (s := s2) (by omega), if_neg (hne (by omega)), if_neg (by omega)]) | (refine ⟨Or.inr rfl, ?_⟩; rw [← hq2, pbf_s (s := s2) (by omega), if_neg (hne (by omega)), if_pos (by omega)])⟩ hP hD hS
    have hts9 := htx s2 (by omega) (by omega)
    refine lv_aload_n (pc := 32) gX gB dM_pictureBefore_32 rfl (lv_at hl 0 rfl) ?_
    refine lv_aload_n (pc := 33) gX gB dM_pictureBefore_33 rfl (lv_at hl 0 rfl) ?_
    refine va_get (pc := 34) (D := (dC, dI)) (ci := 5) (v := .ref (ad 7)) (C := RM) (T := TM) (N := 24) gX gB hw0 inM hown hK hP 0 rfl rfl 7 (by decide) (hw0 _ q658) (fun _ h9 => h9) rfl dM_pictureBefore_34 ?_
    refine lv_iload_n (pc := 37) gX gB dM_pictureBefore_37 rfl (lv_at hl 1 rfl) ?_
    refine jv_iald (pc := 38) gX gB hK hP 6 0 rfl rfl (by decide) (by omega) dM_pictureBefore_38 ?_
    refine jv_ri (pc := 39) (wr := []) (wn := fun u : Int => (pM cI cZ cG cR ad th tb fi se lf ct ln tx kl kp fl fo ol ot pl ky nu yk yn lc fw sd lw od)) (va_runV (rest := []) ⟨gX, gB, hml, hown, hw0⟩ (c_M_clusterOf l dC dI cI cZ cG cR ad th tb fi se lf ct ln tx kl kp fl fo ol ot pl ky nu yk yn lc fw sd lw od _ (tx s2) (by omega) (by omega)) (jcV hw0 kM_clusterOf q824 rfl rfl ⟨Nat.le_trans (Nat.le_of_ble_eq_true rfl) hRf, Nat.le_trans (Nat.le_of_ble_eq_true rfl) hRl⟩) (jv_preV (ci := 5) (q0 := 0) hK hP hD [0, 1, 2, 3, 4, 5, 6, 7, 8, 9, 10, 11, 12, 13, 14, 15, 16, 17, 18] rfl (by decide) rfl rfl) rfl rfl hl.1 rfl (lv_room (Nat.le_of_ble_eq_true rfl)) dM_pictureBefore_39 ⟨Nat.zero_le _, Nat.zero_le _⟩) hP hD hS hA [0, 1, 2, 3, 4, 5, 6, 7, 8, 9, 10, 11, 12, 13, 14, 15, 16, 17, 18] [] [0, 1, 2, 3, 4, 5, 6, 7, 8, 9, 10, 11, 12, 13, 14, 15, 16, 17, 18] rfl rfl (by decide) (by decide) (by decide) (fun _ => rfl) (fun r0 u H locs hw39 hP hD hS => ?_)
    obtain ⟨r_39, hu⟩ : ∃ z, z = u := ⟨_, rfl⟩; subst hu
    obtain ⟨rfl, hw39⟩ := hw39
    refine lv_bipush (pc := 42) (v := iv 9) gX gB dM_pictureBefore_42 (by decide) ?_
    refine jv_icmp_ne (pc := 44) (tgt := 51) gX gB dM_pictureBefore_44 (by decide) (by omega) (by decide) (fun h2 => ?_) (fun h2 => ?_)
    · skip
      refine lv_iconst (pc := 51) (v := iv 0) gX gB dM_pictureBefore_51 rfl ?_
      exact hret _ (0) dM_pictureBefore_52 (Or.inl rfl) ⟨rfl, by first | (refine ⟨Or.inl rfl, ?_⟩; rw [← hq2, show s2 = -1 by omega]; rfl) | (refine ⟨Or.inl rfl, ?_⟩; rw [← hq2, pbf_s (s := s2) (by omega), if_neg (hne (by omega)), if_neg (by omega)]) | (refine ⟨Or.inr rfl, ?_⟩; rw [← hq2, pbf_s (s := s2) (by omega), if_neg (hne (by omega)), if_pos (by omega)])⟩ hP hD hS
    refine lv_iconst (pc := 47) (v := iv 1) gX gB dM_pictureBefore_47 rfl ?_
    refine lv_goto (pc := 48) (tgt := 52) gX gB dM_pictureBefore_48 (by decide) ?_
    exact hret _ (1) dM_pictureBefore_52 (Or.inr rfl) ⟨rfl, by first | (refine ⟨Or.inl rfl, ?_⟩; rw [← hq2, show s2 = -1 by omega]; rfl) | (refine ⟨Or.inl rfl, ?_⟩; rw [← hq2, pbf_s (s := s2) (by omega), if_neg (hne (by omega)), if_neg (by omega)]) | (refine ⟨Or.inr rfl, ?_⟩; rw [← hq2, pbf_s (s := s2) (by omega), if_neg (hne (by omega)), if_pos (by omega)])⟩ hP hD hS
  have cut4 : ∀ (n0 : Nat) (s : Int) (ls : Array Slot) (H : Heap) (locs : List Loc), (-1 ≤ s ∧ s < i) → (pbf (czM tb) tx (s + 1).toNat = pbf (czM tb) tx i.toNat) → ((s + 1 : Int).toNat < n0) → lv_has ls 3 [(0, .ref (ad 0)), (1, .int (iv i)), (2, .int (iv s))] → va_P (dC, dI) vwCl (pM cI cZ cG cR ad th tb fi se lf ct ln tx kl kp fl fo ol ot pl ky nu yk yn lc fw sd lw od) H → va_D A0 (pM cI cZ cG cR ad th tb fi se lf ct ln tx kl kp fl fo ol ot pl ky nu yk yn lc fw sd lw od) → va_S A0 s0.heap H locs → W p0 l e0 R0 s0 m0 a0 b0 t0 c0 H locs 0 0 Q0 (F0 m0 4 ls []) := by
    intro n0
    induction n0 with
    | zero => intro s ls H locs hs hq hm hl hP hD hS; exact absurd hm (Nat.not_lt_zero _)
    | succ n0 ih4 =>
      intro s ls H locs hs hq hm4 hl hP hD hS
      refine lv_iload_n (pc := 4) gX gB dM_pictureBefore_4 rfl (lv_at hl 2 rfl) ?_
      refine jv_if_lt (pc := 5) (tgt := 28) gX gB dM_pictureBefore_5 (by decide) (by omega) (fun h3 => ?_) (fun h3 => ?_)
      · skip
        exact cut28 s _ _ _ (by omega) (by exact hq) (by intro z; omega) (lv_sub hl [0, 2] rfl) hP hD hS
      have hts9 := htx s (by omega) (by omega)
      refine lv_aload_n (pc := 8) gX gB dM_pictureBefore_8 rfl (lv_at hl 0 rfl) ?_
      refine lv_aload_n (pc := 9) gX gB dM_pictureBefore_9 rfl (lv_at hl 0 rfl) ?_
      refine va_get (pc := 10) (D := (dC, dI)) (ci := 5) (v := .ref (ad 7)) (C := RM) (T := TM) (N := 24) gX gB hw0 inM hown hK hP 0 rfl rfl 7 (by decide) (hw0 _ q658) (fun _ h9 => h9) rfl dM_pictureBefore_10 ?_
      refine lv_iload_n (pc := 13) gX gB dM_pictureBefore_13 rfl (lv_at hl 2 rfl) ?_
      refine jv_iald (pc := 14) gX gB hK hP 6 0 rfl rfl (by decide) (by omega) dM_pictureBefore_14 ?_
      refine jv_ri (pc := 15) (wr := []) (wn := fun u : Int => (pM cI cZ cG cR ad th tb fi se lf ct ln tx kl kp fl fo ol ot pl ky nu yk yn lc fw sd lw od)) (va_runV (rest := []) ⟨gX, gB, hml, hown, hw0⟩ (c_M_clusterOf l dC dI cI cZ cG cR ad th tb fi se lf ct ln tx kl kp fl fo ol ot pl ky nu yk yn lc fw sd lw od _ (tx s) (by omega) (by omega)) (jcV hw0 kM_clusterOf q824 rfl rfl ⟨Nat.le_trans (Nat.le_of_ble_eq_true rfl) hRf, Nat.le_trans (Nat.le_of_ble_eq_true rfl) hRl⟩) (jv_preV (ci := 5) (q0 := 0) hK hP hD [0, 1, 2, 3, 4, 5, 6, 7, 8, 9, 10, 11, 12, 13, 14, 15, 16, 17, 18] rfl (by decide) rfl rfl) rfl rfl hl.1 rfl (lv_room (Nat.le_of_ble_eq_true rfl)) dM_pictureBefore_15 ⟨Nat.zero_le _, Nat.zero_le _⟩) hP hD hS hA [0, 1, 2, 3, 4, 5, 6, 7, 8, 9, 10, 11, 12, 13, 14, 15, 16, 17, 18] [] [0, 1, 2, 3, 4, 5, 6, 7, 8, 9, 10, 11, 12, 13, 14, 15, 16, 17, 18] rfl rfl (by decide) (by decide) (by decide) (fun _ => rfl) (fun r0 u H locs hw15 hP hD hS => ?_)
      obtain ⟨r_15, hu⟩ : ∃ z, z = u := ⟨_, rfl⟩; subst hu
      obtain ⟨rfl, hw15⟩ := hw15
      refine lv_iconst (pc := 18) (v := iv 4) gX gB dM_pictureBefore_18 rfl ?_
      refine jv_icmp_ne (pc := 19) (tgt := 28) gX gB dM_pictureBefore_19 (by decide) (by omega) (by decide) (fun h4 => ?_) (fun h4 => ?_)
      · skip
        exact cut28 s _ _ _ (by omega) (by exact hq) (by intro z; omega) (lv_sub hl [0, 2] rfl) hP hD hS
      refine jv_idec (pc := 22) (k := 2) (x := s) (n := (-1)) (d := 1) (lv' := [(2, .int (iv (s - 1))), (0, .ref (ad 0)), (1, .int (iv i))]) gX gB dM_pictureBefore_22 (by decide) hl rfl (by decide) rfl (fun ls hl => ?_)
      refine lv_goto (pc := 25) (tgt := 4) gX gB dM_pictureBefore_25 (by decide) ?_
      exact ih4 (s - 1) _ _ _ (by omega) (by rw [← hq, pbf_s (s := s) (by omega), if_pos (by omega), show s - 1 + 1 = s by omega]) (by omega) (lv_sub hl [1, 2, 0] rfl) hP hD hS
  exact cut4 ((((i - 1) + 1 : Int).toNat) + 1) (i - 1) _ _ _ (by omega) (by rw [show i - 1 + 1 = i by omega]) (Nat.lt_succ_self _) (lv_sub hl [1, 2, 0] rfl) hP hD hS
set_option maxRecDepth 100000 in
set_option maxHeartbeats 1000000 in
theorem c_M_oddRegions (l : Launch) (dC : Nat → ClassId) (dI : Nat → Nat → Nat) (cI : ClassId) (cZ : ClassId) (cG : ClassId) (cR : ClassId) (ad : Nat → Nat) (th : Int) (tb : Int → Int) (fi : Int → Int) (se : Int → Int) (lf : Int → Int) (ct : Int → Int) (ln : Int) (tx : Int → Int) (kl : Int → Int) (kp : Int → Int) (fl : Int) (fo : Int → Int) (ol : Int) (ot : Int → Int) (pl : Int → Int) (ky : Int) (nu : Int → Int) (yk : Int) (yn : Int → Int) (lc : Int → Int) (fw : Int → Int) (sd : Int → Int) (lw : Int → Int) (od : Int → Int) (sz : Nat) (e9 : Int) (hT : TBK tb) (hi : -1 ≤ e9 ∧ e9 < 40) (htx : ∀ j, 0 ≤ j → j < e9 + 1 → 0 ≤ tx j ∧ tx j < 75) : Met l yM_oddRegions wsM_oddRegions ({ frames := 2, cells := 0, slots := 0, locals := 43 }) (va_Pc [.ref (ad 0), .int (iv e9)] (jPre (dC, dI) (jT cI cZ cG cR) (pM cI cZ cG cR ad th tb fi se lf ct ln tx kl kp fl fo ol ot pl ky nu yk yn lc fw sd lw od) sz)) (va_Qi (fun (r0 : Int32) (u : Int) => r0 = iv u ∧ ((u = 0 ∨ u = 1) ∧ (u = 1 ↔ (rcf (czM tb) tx (e9 + 1).toNat % 2 = 1)))) (fun u => jEnd (dC, dI) (jT cI cZ cG cR) (va_A (pM cI cZ cG cR ad th tb fi se lf ct ln tx kl kp fl fo ol ot pl ky nu yk yn lc fw sd lw od) sz) (pM cI cZ cG cR ad th tb fi se lf ct ln tx kl kp fl fo ol ot pl ky nu yk yn lc fw sd lw od)) (va_A (pM cI cZ cG cR ad th tb fi se lf ct ln tx kl kp fl fo ol ot pl ky nu yk yn lc fw sd lw od) sz)) 0 0 (va_A (pM cI cZ cG cR ad th tb fi se lf ct ln tx kl kp fl fo ol ot pl ky nu yk yn lc fw sd lw od) sz) := by
  refine jv_mz (cc := cM_oddRegions) (maxL := 3) (by decide) rfl (Nat.le_of_ble_eq_true rfl) ?_
  intro p0 e0 s0 m0 a0 b0 t0 c0 R0 Q0 A0 ls gX gB hts hown hml hRf hRl hA hK hret hl hP hD hS
  have hown : s0.vm.findClass "TextPipelineModel" = some m0.cls := hown
  have hw0 : ∀ w ∈ WS0, w.before a0 s0 = true := fun w h => hts w (List.mem_cons_of_mem _ h)
  have hl : lv_has ls 3 [(0, .ref (ad 0)), (1, .int (iv e9))] := hl
  have hRf : 2 ≤ R0.frames := hRf
  have hRl : 43 ≤ R0.locals := hRl
  refine lv_iconst (pc := 0) (v := iv 0) gX gB dM_oddRegions_0 rfl ?_
  refine lv_istore_n (pc := 1) (lv' := [(2, .int (iv 0)), (0, .ref (ad 0)), (1, .int (iv e9))]) gX gB dM_oddRegions_1 rfl hl (by decide) rfl (fun ls hl => ?_)
  have cut31 : ∀ (n2 : Int) (ls : Array Slot) (H : Heap) (locs : List Loc), (0 ≤ n2 ∧ n2 ≤ e9 + 1) → (rcf (czM tb) tx (e9 + 1).toNat = n2) → lv_has ls 3 [(0, .ref (ad 0)), (2, .int (iv n2))] → va_P (dC, dI) vwCl (pM cI cZ cG cR ad th tb fi se lf ct ln tx kl kp fl fo ol ot pl ky nu yk yn lc fw sd lw od) H → va_D A0 (pM cI cZ cG cR ad th tb fi se lf ct ln tx kl kp fl fo ol ot pl ky nu yk yn lc fw sd lw od) → va_S A0 s0.heap H locs → W p0 l e0 R0 s0 m0 a0 b0 t0 c0 H locs 0 0 Q0 (F0 m0 31 ls []) := by
    intro n2 ls H locs hn2 hq2 hl hP hD hS
    refine lv_iload_n (pc := 31) gX gB dM_oddRegions_31 rfl (lv_at hl 1 rfl) ?_
    refine lv_iconst (pc := 32) (v := iv 2) gX gB dM_oddRegions_32 rfl ?_
    refine jv_irem (pc := 33) (x := n2) (y := 2) gX gB dM_oddRegions_33 (by omega) (by omega) ?_
    refine lv_iconst (pc := 34) (v := iv 1) gX gB dM_oddRegions_34 rfl ?_
    refine jv_icmp_ne (pc := 35) (tgt := 42) gX gB dM_oddRegions_35 (by decide) (by omega) (by decide) (fun h1 => ?_) (fun h1 => ?_)
    · skip
      refine lv_iconst (pc := 42) (v := iv 0) gX gB dM_oddRegions_42 rfl ?_
      exact hret _ (0) dM_oddRegions_43 (Or.inl rfl) ⟨rfl, by omega⟩ hP hD hS
    refine lv_iconst (pc := 38) (v := iv 1) gX gB dM_oddRegions_38 rfl ?_
    refine lv_goto (pc := 39) (tgt := 43) gX gB dM_oddRegions_39 (by decide) ?_
    exact hret _ (1) dM_oddRegions_43 (Or.inr rfl) ⟨rfl, by omega⟩ hP hD hS
  have cut2 : ∀ (n0 : Nat) (n : Int) (ls : Array Slot) (H : Heap) (locs : List Loc), (0 ≤ n ∧ n ≤ e9 + 1) → (rcf (czM tb) tx (e9 + 1).toNat = rcf (czM tb) tx (e9 + 1 - n).toNat + n) → ((e9 + 1 - n : Int).toNat < n0) → lv_has ls 3 [(0, .ref (ad 0)), (1, .int (iv e9)), (2, .int (iv n))] → va_P (dC, dI) vwCl (pM cI cZ cG cR ad th tb fi se lf ct ln tx kl kp fl fo ol ot pl ky nu yk yn lc fw sd lw od) H → va_D A0 (pM cI cZ cG cR ad th tb fi se lf ct ln tx kl kp fl fo ol ot pl ky nu yk yn lc fw sd lw od) → va_S A0 s0.heap H locs → W p0 l e0 R0 s0 m0 a0 b0 t0 c0 H locs 0 0 Q0 (F0 m0 2 ls []) := by
    intro n0
    induction n0 with
    | zero => intro n ls H locs hn hq hm hl hP hD hS; exact absurd hm (Nat.not_lt_zero _)
    | succ n0 ih2 =>
      intro n ls H locs hn hq hm2 hl hP hD hS
      refine lv_iload_n (pc := 2) gX gB dM_oddRegions_2 rfl (lv_at hl 1 rfl) ?_
      refine lv_iload_n (pc := 3) gX gB dM_oddRegions_3 rfl (lv_at hl 2 rfl) ?_
      refine jv_isub (pc := 4) (x := e9) (y := n) gX gB dM_oddRegions_4 ?_
      refine jv_if_lt (pc := 5) (tgt := 31) gX gB dM_oddRegions_5 (by decide) (by omega) (fun h2 => ?_) (fun h2 => ?_)
      · skip
        exact cut31 n _ _ _ (by omega) (by rw [hq, show e9 + 1 - n = 0 by omega]; show (0 : Int) + n = n; omega) (lv_sub hl [0, 2] rfl) hP hD hS
      have hts9 := htx (e9 - n) (by omega) (by omega)
      have hrs := rcf_s (cz := czM tb) (tx := tx) (s := e9 - n) (by omega)
      rw [show e9 - n + 1 = e9 + 1 - n by omega] at hrs
      refine lv_aload_n (pc := 8) gX gB dM_oddRegions_8 rfl (lv_at hl 0 rfl) ?_
      refine lv_aload_n (pc := 9) gX gB dM_oddRegions_9 rfl (lv_at hl 0 rfl) ?_
      refine va_get (pc := 10) (D := (dC, dI)) (ci := 5) (v := .ref (ad 7)) (C := RM) (T := TM) (N := 24) gX gB hw0 inM hown hK hP 0 rfl rfl 7 (by decide) (hw0 _ q658) (fun _ h9 => h9) rfl dM_oddRegions_10 ?_
      refine lv_iload_n (pc := 13) gX gB dM_oddRegions_13 rfl (lv_at hl 1 rfl) ?_
      refine lv_iload_n (pc := 14) gX gB dM_oddRegions_14 rfl (lv_at hl 2 rfl) ?_
      refine jv_isub (pc := 15) (x := e9) (y := n) gX gB dM_oddRegions_15 ?_
      refine jv_iald (pc := 16) gX gB hK hP 6 0 rfl rfl (by decide) (by omega) dM_oddRegions_16 ?_
      refine jv_ri (pc := 17) (wr := []) (wn := fun u : Int => (pM cI cZ cG cR ad th tb fi se lf ct ln tx kl kp fl fo ol ot pl ky nu yk yn lc fw sd lw od)) (va_runV (rest := []) ⟨gX, gB, hml, hown, hw0⟩ (c_M_clusterOf l dC dI cI cZ cG cR ad th tb fi se lf ct ln tx kl kp fl fo ol ot pl ky nu yk yn lc fw sd lw od _ (tx (e9 - n)) (by omega) (by omega)) (jcV hw0 kM_clusterOf q824 rfl rfl ⟨Nat.le_trans (Nat.le_of_ble_eq_true rfl) hRf, Nat.le_trans (Nat.le_of_ble_eq_true rfl) hRl⟩) (jv_preV (ci := 5) (q0 := 0) hK hP hD [0, 1, 2, 3, 4, 5, 6, 7, 8, 9, 10, 11, 12, 13, 14, 15, 16, 17, 18] rfl (by decide) rfl rfl) rfl rfl hl.1 rfl (lv_room (Nat.le_of_ble_eq_true rfl)) dM_oddRegions_17 ⟨Nat.zero_le _, Nat.zero_le _⟩) hP hD hS hA [0, 1, 2, 3, 4, 5, 6, 7, 8, 9, 10, 11, 12, 13, 14, 15, 16, 17, 18] [] [0, 1, 2, 3, 4, 5, 6, 7, 8, 9, 10, 11, 12, 13, 14, 15, 16, 17, 18] rfl rfl (by decide) (by decide) (by decide) (fun _ => rfl) (fun r0 u H locs hw17 hP hD hS => ?_)
      obtain ⟨r_17, hu⟩ : ∃ z, z = u := ⟨_, rfl⟩; subst hu
      obtain ⟨rfl, hw17⟩ := hw17
      refine lv_bipush (pc := 20) (v := iv 6) gX gB dM_oddRegions_20 (by decide) ?_
      refine jv_icmp_ne (pc := 22) (tgt := 31) gX gB dM_oddRegions_22 (by decide) (by omega) (by decide) (fun h3 => ?_) (fun h3 => ?_)
      · skip
        exact cut31 n _ _ _ (by omega) (by rw [if_neg (by omega)] at hrs; omega) (lv_sub hl [0, 2] rfl) hP hD hS
      refine jv_iinc (pc := 25) (k := 2) (x := n) (n := 1) (lv' := [(2, .int (iv (n + 1))), (0, .ref (ad 0)), (1, .int (iv e9))]) gX gB dM_oddRegions_25 hl rfl (by decide) rfl (fun ls hl => ?_)
      refine lv_goto (pc := 28) (tgt := 2) gX gB dM_oddRegions_28 (by decide) ?_
      exact ih2 (n + 1) _ _ _ (by omega) (by rw [if_pos (by omega)] at hrs; rw [show e9 + 1 - (n + 1) = e9 - n by omega]; omega) (by omega) (lv_sub hl [1, 2, 0] rfl) hP hD hS
  exact cut2 (((e9 + 1 - 0 : Int).toNat) + 1) 0 _ _ _ (by omega) (by rw [show e9 + 1 - 0 = e9 + 1 by omega]; omega) (Nat.lt_succ_self _) (lv_sub hl [1, 2, 0] rfl) hP hD hS
set_option maxRecDepth 100000 in
set_option maxHeartbeats 1000000 in
theorem c_M_syllabic (l : Launch) (dC : Nat → ClassId) (dI : Nat → Nat → Nat) (cI : ClassId) (cZ : ClassId) (cG : ClassId) (cR : ClassId) (ad : Nat → Nat) (th : Int) (tb : Int → Int) (fi : Int → Int) (se : Int → Int) (lf : Int → Int) (ct : Int → Int) (ln : Int) (tx : Int → Int) (kl : Int → Int) (kp : Int → Int) (fl : Int) (fo : Int → Int) (ol : Int) (ot : Int → Int) (pl : Int → Int) (ky : Int) (nu : Int → Int) (yk : Int) (yn : Int → Int) (lc : Int → Int) (fw : Int → Int) (sd : Int → Int) (lw : Int → Int) (od : Int → Int) (sz : Nat) (x : Int) (y : Int) (hx9 : 0 ≤ x ∧ x < 75) (hy9 : 0 ≤ y ∧ y < 75) : Met l yM_syllabic wsM_syllabic ({ frames := 1, cells := 0, slots := 0, locals := 21 }) (va_Pc [.ref (ad 0), .int (iv x), .int (iv y)] (jPre (dC, dI) (jT cI cZ cG cR) (pM cI cZ cG cR ad th tb fi se lf ct ln tx kl kp fl fo ol ot pl ky nu yk yn lc fw sd lw od) sz)) (va_Qi (fun (r0 : Int32) (u : Int) => r0 = iv u ∧ ((u = 0 ∨ u = 1) ∧ u = sylv x y)) (fun u => jEnd (dC, dI) (jT cI cZ cG cR) (va_A (pM cI cZ cG cR ad th tb fi se lf ct ln tx kl kp fl fo ol ot pl ky nu yk yn lc fw sd lw od) sz) (pM cI cZ cG cR ad th tb fi se lf ct ln tx kl kp fl fo ol ot pl ky nu yk yn lc fw sd lw od)) (va_A (pM cI cZ cG cR ad th tb fi se lf ct ln tx kl kp fl fo ol ot pl ky nu yk yn lc fw sd lw od) sz)) 0 0 (va_A (pM cI cZ cG cR ad th tb fi se lf ct ln tx kl kp fl fo ol ot pl ky nu yk yn lc fw sd lw od) sz) := by
  refine jv_mz (cc := cM_syllabic) (maxL := 3) (by decide) rfl (Nat.le_of_ble_eq_true rfl) ?_
  intro p0 e0 s0 m0 a0 b0 t0 c0 R0 Q0 A0 ls gX gB hts hown hml hRf hRl hA hK hret hl hP hD hS
  have hown : s0.vm.findClass "TextPipelineModel" = some m0.cls := hown
  have hw0 : ∀ w ∈ WS0, w.before a0 s0 = true := fun w h => hts w (List.mem_cons_of_mem _ h)
  have hl : lv_has ls 3 [(0, .ref (ad 0)), (1, .int (iv x)), (2, .int (iv y))] := hl
  have hRf : 1 ≤ R0.frames := hRf
  have hRl : 21 ≤ R0.locals := hRl
  have cut86 : ∀ (ls : Array Slot) (H : Heap) (locs : List Loc), (sylv x y = 1) → lv_has ls 3 [(0, .ref (ad 0)), (1, .int (iv x)), (2, .int (iv y))] → va_P (dC, dI) vwCl (pM cI cZ cG cR ad th tb fi se lf ct ln tx kl kp fl fo ol ot pl ky nu yk yn lc fw sd lw od) H → va_D A0 (pM cI cZ cG cR ad th tb fi se lf ct ln tx kl kp fl fo ol ot pl ky nu yk yn lc fw sd lw od) → va_S A0 s0.heap H locs → W p0 l e0 R0 s0 m0 a0 b0 t0 c0 H locs 0 0 Q0 (F0 m0 86 ls []) := by
    intro  ls H locs h86 hl hP hD hS
    refine lv_iconst (pc := 86) (v := iv 1) gX gB dM_syllabic_86 rfl ?_
    refine lv_goto (pc := 87) (tgt := 91) gX gB dM_syllabic_87 (by decide) ?_
    exact hret _ (1) dM_syllabic_91 (Or.inr rfl) ⟨rfl, by first | exact ⟨Or.inr rfl, h86.symm⟩ | (refine ⟨Or.inl rfl, ?_⟩; unfold sylv; exact (if_neg (fun h => h.elim h30 (fun h => h.elim h62 h90))).symm)⟩ hP hD hS
  have cut30 : ∀ (ls : Array Slot) (H : Heap) (locs : List Loc), (¬ ((40 ≤ x ∧ x < 43) ∧ ((40 ≤ y ∧ y < 43) ∨ (43 ≤ y ∧ y < 46) ∨ 47 < y))) → lv_has ls 3 [(0, .ref (ad 0)), (1, .int (iv x)), (2, .int (iv y))] → va_P (dC, dI) vwCl (pM cI cZ cG cR ad th tb fi se lf ct ln tx kl kp fl fo ol ot pl ky nu yk yn lc fw sd lw od) H → va_D A0 (pM cI cZ cG cR ad th tb fi se lf ct ln tx kl kp fl fo ol ot pl ky nu yk yn lc fw sd lw od) → va_S A0 s0.heap H locs → W p0 l e0 R0 s0 m0 a0 b0 t0 c0 H locs 0 0 Q0 (F0 m0 30 ls []) := by
    intro  ls H locs h30 hl hP hD hS
    have cut62 : ∀ (ls : Array Slot) (H : Heap) (locs : List Loc), (¬ (((43 ≤ x ∧ x < 46) ∨ (47 < x ∧ x % 3 = 0)) ∧ ((43 ≤ y ∧ y < 46) ∨ (46 ≤ y ∧ y < 48)))) → lv_has ls 3 [(0, .ref (ad 0)), (1, .int (iv x)), (2, .int (iv y))] → va_P (dC, dI) vwCl (pM cI cZ cG cR ad th tb fi se lf ct ln tx kl kp fl fo ol ot pl ky nu yk yn lc fw sd lw od) H → va_D A0 (pM cI cZ cG cR ad th tb fi se lf ct ln tx kl kp fl fo ol ot pl ky nu yk yn lc fw sd lw od) → va_S A0 s0.heap H locs → W p0 l e0 R0 s0 m0 a0 b0 t0 c0 H locs 0 0 Q0 (F0 m0 62 ls []) := by
      intro  ls H locs h62 hl hP hD hS
      have cut90 : ∀ (ls : Array Slot) (H : Heap) (locs : List Loc), (¬ (((46 ≤ x ∧ x < 48) ∨ (47 < x ∧ x % 3 ≠ 0)) ∧ (46 ≤ y ∧ y < 48))) → lv_has ls 3 [(0, .ref (ad 0)), (1, .int (iv x)), (2, .int (iv y))] → va_P (dC, dI) vwCl (pM cI cZ cG cR ad th tb fi se lf ct ln tx kl kp fl fo ol ot pl ky nu yk yn lc fw sd lw od) H → va_D A0 (pM cI cZ cG cR ad th tb fi se lf ct ln tx kl kp fl fo ol ot pl ky nu yk yn lc fw sd lw od) → va_S A0 s0.heap H locs → W p0 l e0 R0 s0 m0 a0 b0 t0 c0 H locs 0 0 Q0 (F0 m0 90 ls []) := by
        intro  ls H locs h90 hl hP hD hS
        refine lv_iconst (pc := 90) (v := iv 0) gX gB dM_syllabic_90 rfl ?_
        exact hret _ (0) dM_syllabic_91 (Or.inl rfl) ⟨rfl, by first | exact ⟨Or.inr rfl, h86.symm⟩ | (refine ⟨Or.inl rfl, ?_⟩; unfold sylv; exact (if_neg (fun h => h.elim h30 (fun h => h.elim h62 h90))).symm)⟩ hP hD hS
      have cut78 : ∀ (ls : Array Slot) (H : Heap) (locs : List Loc), ((46 ≤ x ∧ x < 48) ∨ (47 < x ∧ x % 3 ≠ 0)) → lv_has ls 3 [(0, .ref (ad 0)), (1, .int (iv x)), (2, .int (iv y))] → va_P (dC, dI) vwCl (pM cI cZ cG cR ad th tb fi se lf ct ln tx kl kp fl fo ol ot pl ky nu yk yn lc fw sd lw od) H → va_D A0 (pM cI cZ cG cR ad th tb fi se lf ct ln tx kl kp fl fo ol ot pl ky nu yk yn lc fw sd lw od) → va_S A0 s0.heap H locs → W p0 l e0 R0 s0 m0 a0 b0 t0 c0 H locs 0 0 Q0 (F0 m0 78 ls []) := by
        intro  ls H locs h78 hl hP hD hS
        refine lv_aload_n (pc := 78) gX gB dM_syllabic_78 rfl (lv_at hl 0 rfl) ?_
        refine lv_iload_n (pc := 79) gX gB dM_syllabic_79 rfl (lv_at hl 2 rfl) ?_
        refine jv_ri (pc := 80) (wr := []) (wn := fun u : Int => (pM cI cZ cG cR ad th tb fi se lf ct ln tx kl kp fl fo ol ot pl ky nu yk yn lc fw sd lw od)) (va_runV (rest := []) ⟨gX, gB, hml, hown, hw0⟩ (c_M_isTail l dC dI cI cZ cG cR ad th tb fi se lf ct ln tx kl kp fl fo ol ot pl ky nu yk yn lc fw sd lw od _ y (by omega)) (jcV hw0 kM_isTail q808 rfl rfl ⟨Nat.le_trans (Nat.le_of_ble_eq_true rfl) hRf, Nat.le_trans (Nat.le_of_ble_eq_true rfl) hRl⟩) (jv_preV (ci := 5) (q0 := 0) hK hP hD [0, 1, 2, 3, 4, 5, 6, 7, 8, 9, 10, 11, 12, 13, 14, 15, 16, 17, 18] rfl (by decide) rfl rfl) rfl rfl hl.1 rfl (lv_room (Nat.le_of_ble_eq_true rfl)) dM_syllabic_80 ⟨Nat.zero_le _, Nat.zero_le _⟩) hP hD hS hA [0, 1, 2, 3, 4, 5, 6, 7, 8, 9, 10, 11, 12, 13, 14, 15, 16, 17, 18] [] [0, 1, 2, 3, 4, 5, 6, 7, 8, 9, 10, 11, 12, 13, 14, 15, 16, 17, 18] rfl rfl (by decide) (by decide) (by decide) (fun _ => rfl) (fun r0 u H locs hw80 hP hD hS => ?_)
        obtain ⟨r_80, hu⟩ : ∃ z, z = u := ⟨_, rfl⟩; subst hu
        obtain ⟨rfl, hw80⟩ := hw80
        refine jv_if_eq (pc := 83) (tgt := 90) gX gB dM_syllabic_83 (by decide) (by omega) (fun h1 => ?_) (fun h1 => ?_)
        · skip
          exact cut90  _ _ _ (by omega) hl hP hD hS
        exact cut86  _ _ _ (by unfold sylv; exact if_pos (by first | exact Or.inl ⟨by omega, by omega⟩ | exact Or.inr (Or.inl ⟨by omega, by omega⟩) | exact Or.inr (Or.inr ⟨by omega, by omega⟩))) hl hP hD hS
      refine lv_aload_n (pc := 62) gX gB dM_syllabic_62 rfl (lv_at hl 0 rfl) ?_
      refine lv_iload_n (pc := 63) gX gB dM_syllabic_63 rfl (lv_at hl 1 rfl) ?_
      refine jv_ri (pc := 64) (wr := []) (wn := fun u : Int => (pM cI cZ cG cR ad th tb fi se lf ct ln tx kl kp fl fo ol ot pl ky nu yk yn lc fw sd lw od)) (va_runV (rest := []) ⟨gX, gB, hml, hown, hw0⟩ (c_M_isTail l dC dI cI cZ cG cR ad th tb fi se lf ct ln tx kl kp fl fo ol ot pl ky nu yk yn lc fw sd lw od _ x (by omega)) (jcV hw0 kM_isTail q808 rfl rfl ⟨Nat.le_trans (Nat.le_of_ble_eq_true rfl) hRf, Nat.le_trans (Nat.le_of_ble_eq_true rfl) hRl⟩) (jv_preV (ci := 5) (q0 := 0) hK hP hD [0, 1, 2, 3, 4, 5, 6, 7, 8, 9, 10, 11, 12, 13, 14, 15, 16, 17, 18] rfl (by decide) rfl rfl) rfl rfl hl.1 rfl (lv_room (Nat.le_of_ble_eq_true rfl)) dM_syllabic_64 ⟨Nat.zero_le _, Nat.zero_le _⟩) hP hD hS hA [0, 1, 2, 3, 4, 5, 6, 7, 8, 9, 10, 11, 12, 13, 14, 15, 16, 17, 18] [] [0, 1, 2, 3, 4, 5, 6, 7, 8, 9, 10, 11, 12, 13, 14, 15, 16, 17, 18] rfl rfl (by decide) (by decide) (by decide) (fun _ => rfl) (fun r0 u H locs hw64 hP hD hS => ?_)
      obtain ⟨r_64, hu⟩ : ∃ z, z = u := ⟨_, rfl⟩; subst hu
      obtain ⟨rfl, hw64⟩ := hw64
      refine jv_if_ne (pc := 67) (tgt := 78) gX gB dM_syllabic_67 (by decide) (by omega) (fun h2 => ?_) (fun h2 => ?_)
      · skip
        exact cut78  _ _ _ (by omega) hl hP hD hS
      refine lv_aload_n (pc := 70) gX gB dM_syllabic_70 rfl (lv_at hl 0 rfl) ?_
      refine lv_iload_n (pc := 71) gX gB dM_syllabic_71 rfl (lv_at hl 1 rfl) ?_
      refine jv_ri (pc := 72) (wr := []) (wn := fun u : Int => (pM cI cZ cG cR ad th tb fi se lf ct ln tx kl kp fl fo ol ot pl ky nu yk yn lc fw sd lw od)) (va_runV (rest := []) ⟨gX, gB, hml, hown, hw0⟩ (c_M_isClosed l dC dI cI cZ cG cR ad th tb fi se lf ct ln tx kl kp fl fo ol ot pl ky nu yk yn lc fw sd lw od _ x (by omega)) (jcV hw0 kM_isClosed q832 rfl rfl ⟨Nat.le_trans (Nat.le_of_ble_eq_true rfl) hRf, Nat.le_trans (Nat.le_of_ble_eq_true rfl) hRl⟩) (jv_preV (ci := 5) (q0 := 0) hK hP hD [0, 1, 2, 3, 4, 5, 6, 7, 8, 9, 10, 11, 12, 13, 14, 15, 16, 17, 18] rfl (by decide) rfl rfl) rfl rfl hl.1 rfl (lv_room (Nat.le_of_ble_eq_true rfl)) dM_syllabic_72 ⟨Nat.zero_le _, Nat.zero_le _⟩) hP hD hS hA [0, 1, 2, 3, 4, 5, 6, 7, 8, 9, 10, 11, 12, 13, 14, 15, 16, 17, 18] [] [0, 1, 2, 3, 4, 5, 6, 7, 8, 9, 10, 11, 12, 13, 14, 15, 16, 17, 18] rfl rfl (by decide) (by decide) (by decide) (fun _ => rfl) (fun r0 u H locs hw72 hP hD hS => ?_)
      obtain ⟨r_72, hu⟩ : ∃ z, z = u := ⟨_, rfl⟩; subst hu
      obtain ⟨rfl, hw72⟩ := hw72
      refine jv_if_eq (pc := 75) (tgt := 90) gX gB dM_syllabic_75 (by decide) (by omega) (fun h3 => ?_) (fun h3 => ?_)
      · skip
        exact cut90  _ _ _ (by omega) hl hP hD hS
      exact cut78  _ _ _ (by omega) hl hP hD hS
    have cut46 : ∀ (ls : Array Slot) (H : Heap) (locs : List Loc), ((43 ≤ x ∧ x < 46) ∨ (47 < x ∧ x % 3 = 0)) → lv_has ls 3 [(0, .ref (ad 0)), (1, .int (iv x)), (2, .int (iv y))] → va_P (dC, dI) vwCl (pM cI cZ cG cR ad th tb fi se lf ct ln tx kl kp fl fo ol ot pl ky nu yk yn lc fw sd lw od) H → va_D A0 (pM cI cZ cG cR ad th tb fi se lf ct ln tx kl kp fl fo ol ot pl ky nu yk yn lc fw sd lw od) → va_S A0 s0.heap H locs → W p0 l e0 R0 s0 m0 a0 b0 t0 c0 H locs 0 0 Q0 (F0 m0 46 ls []) := by
      intro  ls H locs h46 hl hP hD hS
      refine lv_aload_n (pc := 46) gX gB dM_syllabic_46 rfl (lv_at hl 0 rfl) ?_
      refine lv_iload_n (pc := 47) gX gB dM_syllabic_47 rfl (lv_at hl 2 rfl) ?_
      refine jv_ri (pc := 48) (wr := []) (wn := fun u : Int => (pM cI cZ cG cR ad th tb fi se lf ct ln tx kl kp fl fo ol ot pl ky nu yk yn lc fw sd lw od)) (va_runV (rest := []) ⟨gX, gB, hml, hown, hw0⟩ (c_M_isVowel l dC dI cI cZ cG cR ad th tb fi se lf ct ln tx kl kp fl fo ol ot pl ky nu yk yn lc fw sd lw od _ y (by omega)) (jcV hw0 kM_isVowel q800 rfl rfl ⟨Nat.le_trans (Nat.le_of_ble_eq_true rfl) hRf, Nat.le_trans (Nat.le_of_ble_eq_true rfl) hRl⟩) (jv_preV (ci := 5) (q0 := 0) hK hP hD [0, 1, 2, 3, 4, 5, 6, 7, 8, 9, 10, 11, 12, 13, 14, 15, 16, 17, 18] rfl (by decide) rfl rfl) rfl rfl hl.1 rfl (lv_room (Nat.le_of_ble_eq_true rfl)) dM_syllabic_48 ⟨Nat.zero_le _, Nat.zero_le _⟩) hP hD hS hA [0, 1, 2, 3, 4, 5, 6, 7, 8, 9, 10, 11, 12, 13, 14, 15, 16, 17, 18] [] [0, 1, 2, 3, 4, 5, 6, 7, 8, 9, 10, 11, 12, 13, 14, 15, 16, 17, 18] rfl rfl (by decide) (by decide) (by decide) (fun _ => rfl) (fun r0 u H locs hw48 hP hD hS => ?_)
      obtain ⟨r_48, hu⟩ : ∃ z, z = u := ⟨_, rfl⟩; subst hu
      obtain ⟨rfl, hw48⟩ := hw48
      refine jv_if_ne (pc := 51) (tgt := 86) gX gB dM_syllabic_51 (by decide) (by omega) (fun h4 => ?_) (fun h4 => ?_)
      · skip
        exact cut86  _ _ _ (by unfold sylv; exact if_pos (by first | exact Or.inl ⟨by omega, by omega⟩ | exact Or.inr (Or.inl ⟨by omega, by omega⟩) | exact Or.inr (Or.inr ⟨by omega, by omega⟩))) hl hP hD hS
      refine lv_aload_n (pc := 54) gX gB dM_syllabic_54 rfl (lv_at hl 0 rfl) ?_
      refine lv_iload_n (pc := 55) gX gB dM_syllabic_55 rfl (lv_at hl 2 rfl) ?_
      refine jv_ri (pc := 56) (wr := []) (wn := fun u : Int => (pM cI cZ cG cR ad th tb fi se lf ct ln tx kl kp fl fo ol ot pl ky nu yk yn lc fw sd lw od)) (va_runV (rest := []) ⟨gX, gB, hml, hown, hw0⟩ (c_M_isTail l dC dI cI cZ cG cR ad th tb fi se lf ct ln tx kl kp fl fo ol ot pl ky nu yk yn lc fw sd lw od _ y (by omega)) (jcV hw0 kM_isTail q808 rfl rfl ⟨Nat.le_trans (Nat.le_of_ble_eq_true rfl) hRf, Nat.le_trans (Nat.le_of_ble_eq_true rfl) hRl⟩) (jv_preV (ci := 5) (q0 := 0) hK hP hD [0, 1, 2, 3, 4, 5, 6, 7, 8, 9, 10, 11, 12, 13, 14, 15, 16, 17, 18] rfl (by decide) rfl rfl) rfl rfl hl.1 rfl (lv_room (Nat.le_of_ble_eq_true rfl)) dM_syllabic_56 ⟨Nat.zero_le _, Nat.zero_le _⟩) hP hD hS hA [0, 1, 2, 3, 4, 5, 6, 7, 8, 9, 10, 11, 12, 13, 14, 15, 16, 17, 18] [] [0, 1, 2, 3, 4, 5, 6, 7, 8, 9, 10, 11, 12, 13, 14, 15, 16, 17, 18] rfl rfl (by decide) (by decide) (by decide) (fun _ => rfl) (fun r0 u H locs hw56 hP hD hS => ?_)
      obtain ⟨r_56, hu⟩ : ∃ z, z = u := ⟨_, rfl⟩; subst hu
      obtain ⟨rfl, hw56⟩ := hw56
      refine jv_if_ne (pc := 59) (tgt := 86) gX gB dM_syllabic_59 (by decide) (by omega) (fun h5 => ?_) (fun h5 => ?_)
      · skip
        exact cut86  _ _ _ (by unfold sylv; exact if_pos (by first | exact Or.inl ⟨by omega, by omega⟩ | exact Or.inr (Or.inl ⟨by omega, by omega⟩) | exact Or.inr (Or.inr ⟨by omega, by omega⟩))) hl hP hD hS
      exact cut62  _ _ _ (by omega) hl hP hD hS
    refine lv_aload_n (pc := 30) gX gB dM_syllabic_30 rfl (lv_at hl 0 rfl) ?_
    refine lv_iload_n (pc := 31) gX gB dM_syllabic_31 rfl (lv_at hl 1 rfl) ?_
    refine jv_ri (pc := 32) (wr := []) (wn := fun u : Int => (pM cI cZ cG cR ad th tb fi se lf ct ln tx kl kp fl fo ol ot pl ky nu yk yn lc fw sd lw od)) (va_runV (rest := []) ⟨gX, gB, hml, hown, hw0⟩ (c_M_isVowel l dC dI cI cZ cG cR ad th tb fi se lf ct ln tx kl kp fl fo ol ot pl ky nu yk yn lc fw sd lw od _ x (by omega)) (jcV hw0 kM_isVowel q800 rfl rfl ⟨Nat.le_trans (Nat.le_of_ble_eq_true rfl) hRf, Nat.le_trans (Nat.le_of_ble_eq_true rfl) hRl⟩) (jv_preV (ci := 5) (q0 := 0) hK hP hD [0, 1, 2, 3, 4, 5, 6, 7, 8, 9, 10, 11, 12, 13, 14, 15, 16, 17, 18] rfl (by decide) rfl rfl) rfl rfl hl.1 rfl (lv_room (Nat.le_of_ble_eq_true rfl)) dM_syllabic_32 ⟨Nat.zero_le _, Nat.zero_le _⟩) hP hD hS hA [0, 1, 2, 3, 4, 5, 6, 7, 8, 9, 10, 11, 12, 13, 14, 15, 16, 17, 18] [] [0, 1, 2, 3, 4, 5, 6, 7, 8, 9, 10, 11, 12, 13, 14, 15, 16, 17, 18] rfl rfl (by decide) (by decide) (by decide) (fun _ => rfl) (fun r0 u H locs hw32 hP hD hS => ?_)
    obtain ⟨r_32, hu⟩ : ∃ z, z = u := ⟨_, rfl⟩; subst hu
    obtain ⟨rfl, hw32⟩ := hw32
    refine jv_if_ne (pc := 35) (tgt := 46) gX gB dM_syllabic_35 (by decide) (by omega) (fun h6 => ?_) (fun h6 => ?_)
    · skip
      exact cut46  _ _ _ (by omega) hl hP hD hS
    refine lv_aload_n (pc := 38) gX gB dM_syllabic_38 rfl (lv_at hl 0 rfl) ?_
    refine lv_iload_n (pc := 39) gX gB dM_syllabic_39 rfl (lv_at hl 1 rfl) ?_
    refine jv_ri (pc := 40) (wr := []) (wn := fun u : Int => (pM cI cZ cG cR ad th tb fi se lf ct ln tx kl kp fl fo ol ot pl ky nu yk yn lc fw sd lw od)) (va_runV (rest := []) ⟨gX, gB, hml, hown, hw0⟩ (c_M_isOpen l dC dI cI cZ cG cR ad th tb fi se lf ct ln tx kl kp fl fo ol ot pl ky nu yk yn lc fw sd lw od _ x (by omega)) (jcV hw0 kM_isOpen q804 rfl rfl ⟨Nat.le_trans (Nat.le_of_ble_eq_true rfl) hRf, Nat.le_trans (Nat.le_of_ble_eq_true rfl) hRl⟩) (jv_preV (ci := 5) (q0 := 0) hK hP hD [0, 1, 2, 3, 4, 5, 6, 7, 8, 9, 10, 11, 12, 13, 14, 15, 16, 17, 18] rfl (by decide) rfl rfl) rfl rfl hl.1 rfl (lv_room (Nat.le_of_ble_eq_true rfl)) dM_syllabic_40 ⟨Nat.zero_le _, Nat.zero_le _⟩) hP hD hS hA [0, 1, 2, 3, 4, 5, 6, 7, 8, 9, 10, 11, 12, 13, 14, 15, 16, 17, 18] [] [0, 1, 2, 3, 4, 5, 6, 7, 8, 9, 10, 11, 12, 13, 14, 15, 16, 17, 18] rfl rfl (by decide) (by decide) (by decide) (fun _ => rfl) (fun r0 u H locs hw40 hP hD hS => ?_)
    obtain ⟨r_40, hu⟩ : ∃ z, z = u := ⟨_, rfl⟩; subst hu
    obtain ⟨rfl, hw40⟩ := hw40
    refine jv_if_eq (pc := 43) (tgt := 62) gX gB dM_syllabic_43 (by decide) (by omega) (fun h7 => ?_) (fun h7 => ?_)
    · skip
      exact cut62  _ _ _ (by omega) hl hP hD hS
    exact cut46  _ _ _ (by omega) hl hP hD hS
  refine lv_aload_n (pc := 0) gX gB dM_syllabic_0 rfl (lv_at hl 0 rfl) ?_
  refine lv_iload_n (pc := 1) gX gB dM_syllabic_1 rfl (lv_at hl 1 rfl) ?_
  refine jv_ri (pc := 2) (wr := []) (wn := fun u : Int => (pM cI cZ cG cR ad th tb fi se lf ct ln tx kl kp fl fo ol ot pl ky nu yk yn lc fw sd lw od)) (va_runV (rest := []) ⟨gX, gB, hml, hown, hw0⟩ (c_M_isLead l dC dI cI cZ cG cR ad th tb fi se lf ct ln tx kl kp fl fo ol ot pl ky nu yk yn lc fw sd lw od _ x (by omega)) (jcV hw0 kM_isLead q796 rfl rfl ⟨Nat.le_trans (Nat.le_of_ble_eq_true rfl) hRf, Nat.le_trans (Nat.le_of_ble_eq_true rfl) hRl⟩) (jv_preV (ci := 5) (q0 := 0) hK hP hD [0, 1, 2, 3, 4, 5, 6, 7, 8, 9, 10, 11, 12, 13, 14, 15, 16, 17, 18] rfl (by decide) rfl rfl) rfl rfl hl.1 rfl (lv_room (Nat.le_of_ble_eq_true rfl)) dM_syllabic_2 ⟨Nat.zero_le _, Nat.zero_le _⟩) hP hD hS hA [0, 1, 2, 3, 4, 5, 6, 7, 8, 9, 10, 11, 12, 13, 14, 15, 16, 17, 18] [] [0, 1, 2, 3, 4, 5, 6, 7, 8, 9, 10, 11, 12, 13, 14, 15, 16, 17, 18] rfl rfl (by decide) (by decide) (by decide) (fun _ => rfl) (fun r0 u H locs hw2 hP hD hS => ?_)
  obtain ⟨r_2, hu⟩ : ∃ z, z = u := ⟨_, rfl⟩; subst hu
  obtain ⟨rfl, hw2⟩ := hw2
  refine jv_if_eq (pc := 5) (tgt := 30) gX gB dM_syllabic_5 (by decide) (by omega) (fun h8 => ?_) (fun h8 => ?_)
  · skip
    exact cut30  _ _ _ (by omega) hl hP hD hS
  refine lv_aload_n (pc := 8) gX gB dM_syllabic_8 rfl (lv_at hl 0 rfl) ?_
  refine lv_iload_n (pc := 9) gX gB dM_syllabic_9 rfl (lv_at hl 2 rfl) ?_
  refine jv_ri (pc := 10) (wr := []) (wn := fun u : Int => (pM cI cZ cG cR ad th tb fi se lf ct ln tx kl kp fl fo ol ot pl ky nu yk yn lc fw sd lw od)) (va_runV (rest := []) ⟨gX, gB, hml, hown, hw0⟩ (c_M_isLead l dC dI cI cZ cG cR ad th tb fi se lf ct ln tx kl kp fl fo ol ot pl ky nu yk yn lc fw sd lw od _ y (by omega)) (jcV hw0 kM_isLead q796 rfl rfl ⟨Nat.le_trans (Nat.le_of_ble_eq_true rfl) hRf, Nat.le_trans (Nat.le_of_ble_eq_true rfl) hRl⟩) (jv_preV (ci := 5) (q0 := 0) hK hP hD [0, 1, 2, 3, 4, 5, 6, 7, 8, 9, 10, 11, 12, 13, 14, 15, 16, 17, 18] rfl (by decide) rfl rfl) rfl rfl hl.1 rfl (lv_room (Nat.le_of_ble_eq_true rfl)) dM_syllabic_10 ⟨Nat.zero_le _, Nat.zero_le _⟩) hP hD hS hA [0, 1, 2, 3, 4, 5, 6, 7, 8, 9, 10, 11, 12, 13, 14, 15, 16, 17, 18] [] [0, 1, 2, 3, 4, 5, 6, 7, 8, 9, 10, 11, 12, 13, 14, 15, 16, 17, 18] rfl rfl (by decide) (by decide) (by decide) (fun _ => rfl) (fun r0 u H locs hw10 hP hD hS => ?_)
  obtain ⟨r_10, hu⟩ : ∃ z, z = u := ⟨_, rfl⟩; subst hu
  obtain ⟨rfl, hw10⟩ := hw10
  refine jv_if_ne (pc := 13) (tgt := 86) gX gB dM_syllabic_13 (by decide) (by omega) (fun h9 => ?_) (fun h9 => ?_)
  · skip
    exact cut86  _ _ _ (by unfold sylv; exact if_pos (by first | exact Or.inl ⟨by omega, by omega⟩ | exact Or.inr (Or.inl ⟨by omega, by omega⟩) | exact Or.inr (Or.inr ⟨by omega, by omega⟩))) hl hP hD hS
  refine lv_aload_n (pc := 16) gX gB dM_syllabic_16 rfl (lv_at hl 0 rfl) ?_
  refine lv_iload_n (pc := 17) gX gB dM_syllabic_17 rfl (lv_at hl 2 rfl) ?_
  refine jv_ri (pc := 18) (wr := []) (wn := fun u : Int => (pM cI cZ cG cR ad th tb fi se lf ct ln tx kl kp fl fo ol ot pl ky nu yk yn lc fw sd lw od)) (va_runV (rest := []) ⟨gX, gB, hml, hown, hw0⟩ (c_M_isVowel l dC dI cI cZ cG cR ad th tb fi se lf ct ln tx kl kp fl fo ol ot pl ky nu yk yn lc fw sd lw od _ y (by omega)) (jcV hw0 kM_isVowel q800 rfl rfl ⟨Nat.le_trans (Nat.le_of_ble_eq_true rfl) hRf, Nat.le_trans (Nat.le_of_ble_eq_true rfl) hRl⟩) (jv_preV (ci := 5) (q0 := 0) hK hP hD [0, 1, 2, 3, 4, 5, 6, 7, 8, 9, 10, 11, 12, 13, 14, 15, 16, 17, 18] rfl (by decide) rfl rfl) rfl rfl hl.1 rfl (lv_room (Nat.le_of_ble_eq_true rfl)) dM_syllabic_18 ⟨Nat.zero_le _, Nat.zero_le _⟩) hP hD hS hA [0, 1, 2, 3, 4, 5, 6, 7, 8, 9, 10, 11, 12, 13, 14, 15, 16, 17, 18] [] [0, 1, 2, 3, 4, 5, 6, 7, 8, 9, 10, 11, 12, 13, 14, 15, 16, 17, 18] rfl rfl (by decide) (by decide) (by decide) (fun _ => rfl) (fun r0 u H locs hw18 hP hD hS => ?_)
  obtain ⟨r_18, hu⟩ : ∃ z, z = u := ⟨_, rfl⟩; subst hu
  obtain ⟨rfl, hw18⟩ := hw18
  refine jv_if_ne (pc := 21) (tgt := 86) gX gB dM_syllabic_21 (by decide) (by omega) (fun h10 => ?_) (fun h10 => ?_)
  · skip
    exact cut86  _ _ _ (by unfold sylv; exact if_pos (by first | exact Or.inl ⟨by omega, by omega⟩ | exact Or.inr (Or.inl ⟨by omega, by omega⟩) | exact Or.inr (Or.inr ⟨by omega, by omega⟩))) hl hP hD hS
  refine lv_iload_n (pc := 24) gX gB dM_syllabic_24 rfl (lv_at hl 2 rfl) ?_
  refine lv_bipush (pc := 25) (v := iv 47) gX gB dM_syllabic_25 (by decide) ?_
  refine jv_icmp_gt (pc := 27) (tgt := 86) gX gB dM_syllabic_27 (by decide) (by omega) (by decide) (fun h11 => ?_) (fun h11 => ?_)
  · skip
    exact cut86  _ _ _ (by unfold sylv; exact if_pos (by first | exact Or.inl ⟨by omega, by omega⟩ | exact Or.inr (Or.inl ⟨by omega, by omega⟩) | exact Or.inr (Or.inr ⟨by omega, by omega⟩))) hl hP hD hS
  exact cut30  _ _ _ (by omega) hl hP hD hS
set_option maxRecDepth 100000 in
set_option maxHeartbeats 1000000 in
theorem c_M_ends (l : Launch) (dC : Nat → ClassId) (dI : Nat → Nat → Nat) (cI : ClassId) (cZ : ClassId) (cG : ClassId) (cR : ClassId) (ad : Nat → Nat) (th : Int) (tb : Int → Int) (fi : Int → Int) (se : Int → Int) (lf : Int → Int) (ct : Int → Int) (ln : Int) (tx : Int → Int) (kl : Int → Int) (kp : Int → Int) (fl : Int) (fo : Int → Int) (ol : Int) (ot : Int → Int) (pl : Int → Int) (ky : Int) (nu : Int → Int) (yk : Int) (yn : Int → Int) (lc : Int → Int) (fw : Int → Int) (sd : Int → Int) (lw : Int → Int) (od : Int → Int) (sz : Nat) (i : Int) (hT : TBK tb) (hi : 1 ≤ i ∧ i < 40) (htx : ∀ j, 0 ≤ j → j < i + 1 → 0 ≤ tx j ∧ tx j < 75) : Met l yM_ends wsM_ends ({ frames := 3, cells := 0, slots := 0, locals := 65 }) (va_Pc [.ref (ad 0), .int (iv i)] (jPre (dC, dI) (jT cI cZ cG cR) (pM cI cZ cG cR ad th tb fi se lf ct ln tx kl kp fl fo ol ot pl ky nu yk yn lc fw sd lw od) sz)) (va_Qi (fun (r0 : Int32) (u : Int) => r0 = iv u ∧ ((u = 0 ∨ u = 1) ∧ u = evf (czM tb) tx i)) (fun u => jEnd (dC, dI) (jT cI cZ cG cR) (va_A (pM cI cZ cG cR ad th tb fi se lf ct ln tx kl kp fl fo ol ot pl ky nu yk yn lc fw sd lw od) sz) (pM cI cZ cG cR ad th tb fi se lf ct ln tx kl kp fl fo ol ot pl ky nu yk yn lc fw sd lw od)) (va_A (pM cI cZ cG cR ad th tb fi se lf ct ln tx kl kp fl fo ol ot pl ky nu yk yn lc fw sd lw od) sz)) 0 0 (va_A (pM cI cZ cG cR ad th tb fi se lf ct ln tx kl kp fl fo ol ot pl ky nu yk yn lc fw sd lw od) sz) := by
  refine jv_mz (cc := cM_ends) (maxL := 5) (by decide) rfl (Nat.le_of_ble_eq_true rfl) ?_
  intro p0 e0 s0 m0 a0 b0 t0 c0 R0 Q0 A0 ls gX gB hts hown hml hRf hRl hA hK hret hl hP hD hS
  have hown : s0.vm.findClass "TextPipelineModel" = some m0.cls := hown
  have hw0 : ∀ w ∈ WS0, w.before a0 s0 = true := fun w h => hts w (List.mem_cons_of_mem _ h)
  have hl : lv_has ls 5 [(0, .ref (ad 0)), (1, .int (iv i))] := hl
  have hRf : 3 ≤ R0.frames := hRf
  have hRl : 65 ≤ R0.locals := hRl
  have ht1 := htx (i - 1) (by omega) (by omega)
  have ht2 := htx i (by omega) (by omega)
  refine lv_aload_n (pc := 0) gX gB dM_ends_0 rfl (lv_at hl 0 rfl) ?_
  refine lv_aload_n (pc := 1) gX gB dM_ends_1 rfl (lv_at hl 0 rfl) ?_
  refine va_get (pc := 2) (D := (dC, dI)) (ci := 5) (v := .ref (ad 7)) (C := RM) (T := TM) (N := 24) gX gB hw0 inM hown hK hP 0 rfl rfl 7 (by decide) (hw0 _ q658) (fun _ h9 => h9) rfl dM_ends_2 ?_
  refine lv_iload_n (pc := 5) gX gB dM_ends_5 rfl (lv_at hl 1 rfl) ?_
  refine lv_iconst (pc := 6) (v := iv 1) gX gB dM_ends_6 rfl ?_
  refine jv_isub (pc := 7) (x := i) (y := 1) gX gB dM_ends_7 ?_
  refine jv_iald (pc := 8) gX gB hK hP 6 0 rfl rfl (by decide) (by omega) dM_ends_8 ?_
  refine jv_ri (pc := 9) (wr := []) (wn := fun u : Int => (pM cI cZ cG cR ad th tb fi se lf ct ln tx kl kp fl fo ol ot pl ky nu yk yn lc fw sd lw od)) (va_runV (rest := []) ⟨gX, gB, hml, hown, hw0⟩ (c_M_clusterOf l dC dI cI cZ cG cR ad th tb fi se lf ct ln tx kl kp fl fo ol ot pl ky nu yk yn lc fw sd lw od _ (tx (i - 1)) (by omega) (by omega)) (jcV hw0 kM_clusterOf q824 rfl rfl ⟨Nat.le_trans (Nat.le_of_ble_eq_true rfl) hRf, Nat.le_trans (Nat.le_of_ble_eq_true rfl) hRl⟩) (jv_preV (ci := 5) (q0 := 0) hK hP hD [0, 1, 2, 3, 4, 5, 6, 7, 8, 9, 10, 11, 12, 13, 14, 15, 16, 17, 18] rfl (by decide) rfl rfl) rfl rfl hl.1 rfl (lv_room (Nat.le_of_ble_eq_true rfl)) dM_ends_9 ⟨Nat.zero_le _, Nat.zero_le _⟩) hP hD hS hA [0, 1, 2, 3, 4, 5, 6, 7, 8, 9, 10, 11, 12, 13, 14, 15, 16, 17, 18] [] [0, 1, 2, 3, 4, 5, 6, 7, 8, 9, 10, 11, 12, 13, 14, 15, 16, 17, 18] rfl rfl (by decide) (by decide) (by decide) (fun _ => rfl) (fun r0 u H locs hw9 hP hD hS => ?_)
  obtain ⟨r_9, hu⟩ : ∃ z, z = u := ⟨_, rfl⟩; subst hu
  obtain ⟨rfl, hw9⟩ := hw9
  refine lv_istore_n (pc := 12) (lv' := [(2, .int (iv r_9)), (0, .ref (ad 0)), (1, .int (iv i))]) gX gB dM_ends_12 rfl hl (by decide) rfl (fun ls hl => ?_)
  refine lv_aload_n (pc := 13) gX gB dM_ends_13 rfl (lv_at hl 1 rfl) ?_
  refine lv_aload_n (pc := 14) gX gB dM_ends_14 rfl (lv_at hl 1 rfl) ?_
  refine va_get (pc := 15) (D := (dC, dI)) (ci := 5) (v := .ref (ad 7)) (C := RM) (T := TM) (N := 24) gX gB hw0 inM hown hK hP 0 rfl rfl 7 (by decide) (hw0 _ q658) (fun _ h9 => h9) rfl dM_ends_15 ?_
  refine lv_iload_n (pc := 18) gX gB dM_ends_18 rfl (lv_at hl 2 rfl) ?_
  refine jv_iald (pc := 19) gX gB hK hP 6 0 rfl rfl (by decide) (by omega) dM_ends_19 ?_
  refine jv_ri (pc := 20) (wr := []) (wn := fun u : Int => (pM cI cZ cG cR ad th tb fi se lf ct ln tx kl kp fl fo ol ot pl ky nu yk yn lc fw sd lw od)) (va_runV (rest := []) ⟨gX, gB, hml, hown, hw0⟩ (c_M_clusterOf l dC dI cI cZ cG cR ad th tb fi se lf ct ln tx kl kp fl fo ol ot pl ky nu yk yn lc fw sd lw od _ (tx i) (by omega) (by omega)) (jcV hw0 kM_clusterOf q824 rfl rfl ⟨Nat.le_trans (Nat.le_of_ble_eq_true rfl) hRf, Nat.le_trans (Nat.le_of_ble_eq_true rfl) hRl⟩) (jv_preV (ci := 5) (q0 := 0) hK hP hD [0, 1, 2, 3, 4, 5, 6, 7, 8, 9, 10, 11, 12, 13, 14, 15, 16, 17, 18] rfl (by decide) rfl rfl) rfl rfl hl.1 rfl (lv_room (Nat.le_of_ble_eq_true rfl)) dM_ends_20 ⟨Nat.zero_le _, Nat.zero_le _⟩) hP hD hS hA [0, 1, 2, 3, 4, 5, 6, 7, 8, 9, 10, 11, 12, 13, 14, 15, 16, 17, 18] [] [0, 1, 2, 3, 4, 5, 6, 7, 8, 9, 10, 11, 12, 13, 14, 15, 16, 17, 18] rfl rfl (by decide) (by decide) (by decide) (fun _ => rfl) (fun r0 u H locs hw20 hP hD hS => ?_)
  obtain ⟨r_20, hu⟩ : ∃ z, z = u := ⟨_, rfl⟩; subst hu
  obtain ⟨rfl, hw20⟩ := hw20
  refine lv_istore_n (pc := 23) (lv' := [(3, .int (iv r_20)), (2, .int (iv r_9)), (0, .ref (ad 0)), (1, .int (iv i))]) gX gB dM_ends_23 rfl hl (by decide) rfl (fun ls hl => ?_)
  have cut36 : ∀ (ls : Array Slot) (H : Heap) (locs : List Loc), (¬ (r_9 = 1 ∧ r_20 = 2)) → lv_has ls 5 [(0, .ref (ad 0)), (1, .int (iv i)), (2, .int (iv r_9)), (3, .int (iv r_20))] → va_P (dC, dI) vwCl (pM cI cZ cG cR ad th tb fi se lf ct ln tx kl kp fl fo ol ot pl ky nu yk yn lc fw sd lw od) H → va_D A0 (pM cI cZ cG cR ad th tb fi se lf ct ln tx kl kp fl fo ol ot pl ky nu yk yn lc fw sd lw od) → va_S A0 s0.heap H locs → W p0 l e0 R0 s0 m0 a0 b0 t0 c0 H locs 0 0 Q0 (F0 m0 36 ls []) := by
    intro  ls H locs h36 hl hP hD hS
    have cut56 : ∀ (ls : Array Slot) (H : Heap) (locs : List Loc), (¬ ((0 < r_9 ∧ r_9 < 4) ∨ (0 < r_20 ∧ r_20 < 4))) → lv_has ls 5 [(0, .ref (ad 0)), (1, .int (iv i)), (2, .int (iv r_9)), (3, .int (iv r_20))] → va_P (dC, dI) vwCl (pM cI cZ cG cR ad th tb fi se lf ct ln tx kl kp fl fo ol ot pl ky nu yk yn lc fw sd lw od) H → va_D A0 (pM cI cZ cG cR ad th tb fi se lf ct ln tx kl kp fl fo ol ot pl ky nu yk yn lc fw sd lw od) → va_S A0 s0.heap H locs → W p0 l e0 R0 s0 m0 a0 b0 t0 c0 H locs 0 0 Q0 (F0 m0 56 ls []) := by
      intro  ls H locs h56 hl hP hD hS
      have cut146 : ∀ (ls : Array Slot) (H : Heap) (locs : List Loc), (evf (czM tb) tx i = 1) → lv_has ls 5 [(0, .ref (ad 0)), (1, .int (iv i))] → va_P (dC, dI) vwCl (pM cI cZ cG cR ad th tb fi se lf ct ln tx kl kp fl fo ol ot pl ky nu yk yn lc fw sd lw od) H → va_D A0 (pM cI cZ cG cR ad th tb fi se lf ct ln tx kl kp fl fo ol ot pl ky nu yk yn lc fw sd lw od) → va_S A0 s0.heap H locs → W p0 l e0 R0 s0 m0 a0 b0 t0 c0 H locs 0 0 Q0 (F0 m0 146 ls []) := by
        intro  ls H locs h146 hl hP hD hS
        refine lv_iconst (pc := 146) (v := iv 0) gX gB dM_ends_146 rfl ?_
        refine lv_istore (pc := 147) (lv' := [(4, .int (iv 0)), (0, .ref (ad 0)), (1, .int (iv i))]) gX gB dM_ends_147 hl (by decide) rfl (fun ls hl => ?_)
        refine lv_iload (pc := 149) gX gB dM_ends_149 (lv_at hl 0 rfl) ?_
        refine jv_if_ne (pc := 151) (tgt := 158) gX gB dM_ends_151 (by decide) (by decide) (fun h1 => ?_) (fun h1 => ?_)
        · exact absurd h1 (by decide)
        refine lv_iconst (pc := 154) (v := iv 1) gX gB dM_ends_154 rfl ?_
        refine lv_goto (pc := 155) (tgt := 159) gX gB dM_ends_155 (by decide) ?_
        exact hret _ (1) dM_ends_159 (Or.inr rfl) ⟨rfl, by first | exact ⟨Or.inl rfl, by omega⟩ | exact ⟨Or.inr rfl, by omega⟩⟩ hP hD hS
      have cut142 : ∀ (ls : Array Slot) (H : Heap) (locs : List Loc), (evf (czM tb) tx i = 0) → lv_has ls 5 [(0, .ref (ad 0)), (1, .int (iv i))] → va_P (dC, dI) vwCl (pM cI cZ cG cR ad th tb fi se lf ct ln tx kl kp fl fo ol ot pl ky nu yk yn lc fw sd lw od) H → va_D A0 (pM cI cZ cG cR ad th tb fi se lf ct ln tx kl kp fl fo ol ot pl ky nu yk yn lc fw sd lw od) → va_S A0 s0.heap H locs → W p0 l e0 R0 s0 m0 a0 b0 t0 c0 H locs 0 0 Q0 (F0 m0 142 ls []) := by
        intro  ls H locs h142 hl hP hD hS
        refine lv_iconst (pc := 142) (v := iv 1) gX gB dM_ends_142 rfl ?_
        refine lv_goto (pc := 143) (tgt := 147) gX gB dM_ends_143 (by decide) ?_
        refine lv_istore (pc := 147) (lv' := [(4, .int (iv 1)), (0, .ref (ad 0)), (1, .int (iv i))]) gX gB dM_ends_147 hl (by decide) rfl (fun ls hl => ?_)
        refine lv_iload (pc := 149) gX gB dM_ends_149 (lv_at hl 0 rfl) ?_
        refine jv_if_ne (pc := 151) (tgt := 158) gX gB dM_ends_151 (by decide) (by decide) (fun h2 => ?_) (fun h2 => ?_)
        rotate_left
        · exact absurd h2 (by decide)
        refine lv_iconst (pc := 158) (v := iv 0) gX gB dM_ends_158 rfl ?_
        exact hret _ (0) dM_ends_159 (Or.inl rfl) ⟨rfl, by first | exact ⟨Or.inl rfl, by omega⟩ | exact ⟨Or.inr rfl, by omega⟩⟩ hP hD hS
      refine lv_aload_n (pc := 56) gX gB dM_ends_56 rfl (lv_at hl 0 rfl) ?_
      refine lv_aload_n (pc := 57) gX gB dM_ends_57 rfl (lv_at hl 0 rfl) ?_
      refine va_get (pc := 58) (D := (dC, dI)) (ci := 5) (v := .ref (ad 7)) (C := RM) (T := TM) (N := 24) gX gB hw0 inM hown hK hP 0 rfl rfl 7 (by decide) (hw0 _ q658) (fun _ h9 => h9) rfl dM_ends_58 ?_
      refine lv_iload_n (pc := 61) gX gB dM_ends_61 rfl (lv_at hl 1 rfl) ?_
      refine lv_iconst (pc := 62) (v := iv 1) gX gB dM_ends_62 rfl ?_
      refine jv_isub (pc := 63) (x := i) (y := 1) gX gB dM_ends_63 ?_
      refine jv_iald (pc := 64) gX gB hK hP 6 0 rfl rfl (by decide) (by omega) dM_ends_64 ?_
      refine lv_aload_n (pc := 65) gX gB dM_ends_65 rfl (lv_at hl 0 rfl) ?_
      refine va_get (pc := 66) (D := (dC, dI)) (ci := 5) (v := .ref (ad 7)) (C := RM) (T := TM) (N := 24) gX gB hw0 inM hown hK hP 0 rfl rfl 7 (by decide) (hw0 _ q658) (fun _ h9 => h9) rfl dM_ends_66 ?_
      refine lv_iload_n (pc := 69) gX gB dM_ends_69 rfl (lv_at hl 1 rfl) ?_
      refine jv_iald (pc := 70) gX gB hK hP 6 0 rfl rfl (by decide) (by omega) dM_ends_70 ?_
      refine jv_ri (pc := 71) (wr := []) (wn := fun u : Int => (pM cI cZ cG cR ad th tb fi se lf ct ln tx kl kp fl fo ol ot pl ky nu yk yn lc fw sd lw od)) (va_runV (rest := []) ⟨gX, gB, hml, hown, hw0⟩ (c_M_syllabic l dC dI cI cZ cG cR ad th tb fi se lf ct ln tx kl kp fl fo ol ot pl ky nu yk yn lc fw sd lw od _ (tx (i - 1)) (tx i) (by omega) (by omega)) (jcV hw0 kM_syllabic q828 rfl rfl ⟨Nat.le_trans (Nat.le_of_ble_eq_true rfl) hRf, Nat.le_trans (Nat.le_of_ble_eq_true rfl) hRl⟩) (jv_preV (ci := 5) (q0 := 0) hK hP hD [0, 1, 2, 3, 4, 5, 6, 7, 8, 9, 10, 11, 12, 13, 14, 15, 16, 17, 18] rfl (by decide) rfl rfl) rfl rfl hl.1 rfl (lv_room (Nat.le_of_ble_eq_true rfl)) dM_ends_71 ⟨Nat.zero_le _, Nat.zero_le _⟩) hP hD hS hA [0, 1, 2, 3, 4, 5, 6, 7, 8, 9, 10, 11, 12, 13, 14, 15, 16, 17, 18] [] [0, 1, 2, 3, 4, 5, 6, 7, 8, 9, 10, 11, 12, 13, 14, 15, 16, 17, 18] rfl rfl (by decide) (by decide) (by decide) (fun _ => rfl) (fun r0 u H locs hw71 hP hD hS => ?_)
      obtain ⟨r_71, hu⟩ : ∃ z, z = u := ⟨_, rfl⟩; subst hu
      obtain ⟨rfl, hw71⟩ := hw71
      refine jv_if_ne (pc := 74) (tgt := 142) gX gB dM_ends_74 (by decide) (by omega) (fun h3 => ?_) (fun h3 => ?_)
      · skip
        exact cut142  _ _ _ (by unfold evf; rw [if_neg (by omega), if_neg (by omega), if_pos (by omega)]) (lv_sub hl [0, 1] rfl) hP hD hS
      obtain ⟨hs0, hs1⟩ := hw71
      refine lv_iload_n (pc := 77) gX gB dM_ends_77 rfl (lv_at hl 3 rfl) ?_
      refine lv_iconst (pc := 78) (v := iv 4) gX gB dM_ends_78 rfl ?_
      refine jv_icmp_eq (pc := 79) (tgt := 142) gX gB dM_ends_79 (by decide) (by omega) (by decide) (fun h4 => ?_) (fun h4 => ?_)
      · skip
        exact cut142  _ _ _ (by unfold evf; rw [if_neg (by omega), if_neg (by omega), if_pos (by omega)]) (lv_sub hl [0, 1] rfl) hP hD hS
      refine lv_iload_n (pc := 82) gX gB dM_ends_82 rfl (lv_at hl 3 rfl) ?_
      refine lv_iconst (pc := 83) (v := iv 5) gX gB dM_ends_83 rfl ?_
      refine jv_icmp_eq (pc := 84) (tgt := 142) gX gB dM_ends_84 (by decide) (by omega) (by decide) (fun h5 => ?_) (fun h5 => ?_)
      · skip
        exact cut142  _ _ _ (by unfold evf; rw [if_neg (by omega), if_neg (by omega), if_pos (by omega)]) (lv_sub hl [0, 1] rfl) hP hD hS
      refine lv_iload_n (pc := 87) gX gB dM_ends_87 rfl (lv_at hl 3 rfl) ?_
      refine lv_bipush (pc := 88) (v := iv 8) gX gB dM_ends_88 (by decide) ?_
      refine jv_icmp_eq (pc := 90) (tgt := 142) gX gB dM_ends_90 (by decide) (by omega) (by decide) (fun h6 => ?_) (fun h6 => ?_)
      · skip
        exact cut142  _ _ _ (by unfold evf; rw [if_neg (by omega), if_neg (by omega), if_pos (by omega)]) (lv_sub hl [0, 1] rfl) hP hD hS
      refine lv_iload_n (pc := 93) gX gB dM_ends_93 rfl (lv_at hl 2 rfl) ?_
      refine lv_bipush (pc := 94) (v := iv 7) gX gB dM_ends_94 (by decide) ?_
      refine jv_icmp_eq (pc := 96) (tgt := 142) gX gB dM_ends_96 (by decide) (by omega) (by decide) (fun h7 => ?_) (fun h7 => ?_)
      · skip
        exact cut142  _ _ _ (by unfold evf; rw [if_neg (by omega), if_neg (by omega), if_pos (by omega)]) (lv_sub hl [0, 1] rfl) hP hD hS
      have cut120 : ∀ (ls : Array Slot) (H : Heap) (locs : List Loc), (¬ (r_9 = 5 ∧ r_20 = 9 ∧ pbf (czM tb) tx (i - 1).toNat = 1)) → lv_has ls 5 [(0, .ref (ad 0)), (1, .int (iv i)), (2, .int (iv r_9)), (3, .int (iv r_20))] → va_P (dC, dI) vwCl (pM cI cZ cG cR ad th tb fi se lf ct ln tx kl kp fl fo ol ot pl ky nu yk yn lc fw sd lw od) H → va_D A0 (pM cI cZ cG cR ad th tb fi se lf ct ln tx kl kp fl fo ol ot pl ky nu yk yn lc fw sd lw od) → va_S A0 s0.heap H locs → W p0 l e0 R0 s0 m0 a0 b0 t0 c0 H locs 0 0 Q0 (F0 m0 120 ls []) := by
        intro  ls H locs h120 hl hP hD hS
        refine lv_iload_n (pc := 120) gX gB dM_ends_120 rfl (lv_at hl 2 rfl) ?_
        refine lv_bipush (pc := 121) (v := iv 6) gX gB dM_ends_121 (by decide) ?_
        refine jv_icmp_ne (pc := 123) (tgt := 146) gX gB dM_ends_123 (by decide) (by omega) (by decide) (fun h8 => ?_) (fun h8 => ?_)
        · skip
          exact cut146  _ _ _ (by unfold evf; rw [if_neg (by omega), if_neg (by omega), if_neg (by omega)]) (lv_sub hl [0, 1] rfl) hP hD hS
        refine lv_iload_n (pc := 126) gX gB dM_ends_126 rfl (lv_at hl 3 rfl) ?_
        refine lv_bipush (pc := 127) (v := iv 6) gX gB dM_ends_127 (by decide) ?_
        refine jv_icmp_ne (pc := 129) (tgt := 146) gX gB dM_ends_129 (by decide) (by omega) (by decide) (fun h9 => ?_) (fun h9 => ?_)
        · skip
          exact cut146  _ _ _ (by unfold evf; rw [if_neg (by omega), if_neg (by omega), if_neg (by omega)]) (lv_sub hl [0, 1] rfl) hP hD hS
        refine lv_aload_n (pc := 132) gX gB dM_ends_132 rfl (lv_at hl 0 rfl) ?_
        refine lv_iload_n (pc := 133) gX gB dM_ends_133 rfl (lv_at hl 1 rfl) ?_
        refine lv_iconst (pc := 134) (v := iv 1) gX gB dM_ends_134 rfl ?_
        refine jv_isub (pc := 135) (x := i) (y := 1) gX gB dM_ends_135 ?_
        refine jv_ri (pc := 136) (wr := []) (wn := fun u : Int => (pM cI cZ cG cR ad th tb fi se lf ct ln tx kl kp fl fo ol ot pl ky nu yk yn lc fw sd lw od)) (va_runV (rest := []) ⟨gX, gB, hml, hown, hw0⟩ (c_M_oddRegions l dC dI cI cZ cG cR ad th tb fi se lf ct ln tx kl kp fl fo ol ot pl ky nu yk yn lc fw sd lw od _ (i - 1) (by omega) (by omega) (by exact fun j a b => htx j a (by omega))) (jcV hw0 kM_oddRegions q840 rfl rfl ⟨Nat.le_trans (Nat.le_of_ble_eq_true rfl) hRf, Nat.le_trans (Nat.le_of_ble_eq_true rfl) hRl⟩) (jv_preV (ci := 5) (q0 := 0) hK hP hD [0, 1, 2, 3, 4, 5, 6, 7, 8, 9, 10, 11, 12, 13, 14, 15, 16, 17, 18] rfl (by decide) rfl rfl) rfl rfl hl.1 rfl (lv_room (Nat.le_of_ble_eq_true rfl)) dM_ends_136 ⟨Nat.zero_le _, Nat.zero_le _⟩) hP hD hS hA [0, 1, 2, 3, 4, 5, 6, 7, 8, 9, 10, 11, 12, 13, 14, 15, 16, 17, 18] [] [0, 1, 2, 3, 4, 5, 6, 7, 8, 9, 10, 11, 12, 13, 14, 15, 16, 17, 18] rfl rfl (by decide) (by decide) (by decide) (fun _ => rfl) (fun r0 u H locs hw136 hP hD hS => ?_)
        obtain ⟨r_136, hu⟩ : ∃ z, z = u := ⟨_, rfl⟩; subst hu
        obtain ⟨rfl, hw136⟩ := hw136
        refine jv_if_eq (pc := 139) (tgt := 146) gX gB dM_ends_139 (by decide) (by omega) (fun h10 => ?_) (fun h10 => ?_)
        · skip
          exact cut146  _ _ _ (by rw [show i - 1 + 1 = i by omega] at hw136; unfold evf; rw [if_neg (by omega), if_neg (by omega), if_neg (by omega)]) (lv_sub hl [0, 1] rfl) hP hD hS
        exact cut142  _ _ _ (by rw [show i - 1 + 1 = i by omega] at hw136; unfold evf; rw [if_neg (by omega), if_neg (by omega), if_pos (by omega)]) (lv_sub hl [0, 1] rfl) hP hD hS
      refine lv_iload_n (pc := 99) gX gB dM_ends_99 rfl (lv_at hl 2 rfl) ?_
      refine lv_iconst (pc := 100) (v := iv 5) gX gB dM_ends_100 rfl ?_
      refine jv_icmp_ne (pc := 101) (tgt := 120) gX gB dM_ends_101 (by decide) (by omega) (by decide) (fun h11 => ?_) (fun h11 => ?_)
      · skip
        exact cut120  _ _ _ (by omega) hl hP hD hS
      refine lv_iload_n (pc := 104) gX gB dM_ends_104 rfl (lv_at hl 3 rfl) ?_
      refine lv_bipush (pc := 105) (v := iv 9) gX gB dM_ends_105 (by decide) ?_
      refine jv_icmp_ne (pc := 107) (tgt := 120) gX gB dM_ends_107 (by decide) (by omega) (by decide) (fun h12 => ?_) (fun h12 => ?_)
      · skip
        exact cut120  _ _ _ (by omega) hl hP hD hS
      refine lv_aload_n (pc := 110) gX gB dM_ends_110 rfl (lv_at hl 0 rfl) ?_
      refine lv_iload_n (pc := 111) gX gB dM_ends_111 rfl (lv_at hl 1 rfl) ?_
      refine lv_iconst (pc := 112) (v := iv 1) gX gB dM_ends_112 rfl ?_
      refine jv_isub (pc := 113) (x := i) (y := 1) gX gB dM_ends_113 ?_
      refine jv_ri (pc := 114) (wr := []) (wn := fun u : Int => (pM cI cZ cG cR ad th tb fi se lf ct ln tx kl kp fl fo ol ot pl ky nu yk yn lc fw sd lw od)) (va_runV (rest := []) ⟨gX, gB, hml, hown, hw0⟩ (c_M_pictureBefore l dC dI cI cZ cG cR ad th tb fi se lf ct ln tx kl kp fl fo ol ot pl ky nu yk yn lc fw sd lw od _ (i - 1) (by omega) (by omega) (by exact fun j a b => htx j a (by omega))) (jcV hw0 kM_pictureBefore q836 rfl rfl ⟨Nat.le_trans (Nat.le_of_ble_eq_true rfl) hRf, Nat.le_trans (Nat.le_of_ble_eq_true rfl) hRl⟩) (jv_preV (ci := 5) (q0 := 0) hK hP hD [0, 1, 2, 3, 4, 5, 6, 7, 8, 9, 10, 11, 12, 13, 14, 15, 16, 17, 18] rfl (by decide) rfl rfl) rfl rfl hl.1 rfl (lv_room (Nat.le_of_ble_eq_true rfl)) dM_ends_114 ⟨Nat.zero_le _, Nat.zero_le _⟩) hP hD hS hA [0, 1, 2, 3, 4, 5, 6, 7, 8, 9, 10, 11, 12, 13, 14, 15, 16, 17, 18] [] [0, 1, 2, 3, 4, 5, 6, 7, 8, 9, 10, 11, 12, 13, 14, 15, 16, 17, 18] rfl rfl (by decide) (by decide) (by decide) (fun _ => rfl) (fun r0 u H locs hw114 hP hD hS => ?_)
      obtain ⟨r_114, hu⟩ : ∃ z, z = u := ⟨_, rfl⟩; subst hu
      obtain ⟨rfl, hw114⟩ := hw114
      refine jv_if_ne (pc := 117) (tgt := 142) gX gB dM_ends_117 (by decide) (by omega) (fun h13 => ?_) (fun h13 => ?_)
      · skip
        exact cut142  _ _ _ (by unfold evf; rw [if_neg (by omega), if_neg (by omega), if_pos (by omega)]) (lv_sub hl [0, 1] rfl) hP hD hS
      exact cut120  _ _ _ (by omega) hl hP hD hS
    have cut54 : ∀ (ls : Array Slot) (H : Heap) (locs : List Loc), ((0 < r_9 ∧ r_9 < 4) ∨ (0 < r_20 ∧ r_20 < 4)) → lv_has ls 5 [(0, .ref (ad 0)), (1, .int (iv i)), (2, .int (iv r_9)), (3, .int (iv r_20))] → va_P (dC, dI) vwCl (pM cI cZ cG cR ad th tb fi se lf ct ln tx kl kp fl fo ol ot pl ky nu yk yn lc fw sd lw od) H → va_D A0 (pM cI cZ cG cR ad th tb fi se lf ct ln tx kl kp fl fo ol ot pl ky nu yk yn lc fw sd lw od) → va_S A0 s0.heap H locs → W p0 l e0 R0 s0 m0 a0 b0 t0 c0 H locs 0 0 Q0 (F0 m0 54 ls []) := by
      intro  ls H locs h54 hl hP hD hS
      refine lv_iconst (pc := 54) (v := iv 1) gX gB dM_ends_54 rfl ?_
      exact hret _ (1) dM_ends_55 (Or.inr rfl) ⟨rfl, by refine ⟨Or.inr rfl, ?_⟩; unfold evf; rw [if_neg (by omega), if_pos (by omega)]⟩ hP hD hS
    have cut45 : ∀ (ls : Array Slot) (H : Heap) (locs : List Loc), (¬ (0 < r_9 ∧ r_9 < 4)) → lv_has ls 5 [(0, .ref (ad 0)), (1, .int (iv i)), (2, .int (iv r_9)), (3, .int (iv r_20))] → va_P (dC, dI) vwCl (pM cI cZ cG cR ad th tb fi se lf ct ln tx kl kp fl fo ol ot pl ky nu yk yn lc fw sd lw od) H → va_D A0 (pM cI cZ cG cR ad th tb fi se lf ct ln tx kl kp fl fo ol ot pl ky nu yk yn lc fw sd lw od) → va_S A0 s0.heap H locs → W p0 l e0 R0 s0 m0 a0 b0 t0 c0 H locs 0 0 Q0 (F0 m0 45 ls []) := by
      intro  ls H locs h45 hl hP hD hS
      refine lv_iload_n (pc := 45) gX gB dM_ends_45 rfl (lv_at hl 3 rfl) ?_
      refine jv_if_le (pc := 46) (tgt := 56) gX gB dM_ends_46 (by decide) (by omega) (fun h14 => ?_) (fun h14 => ?_)
      · skip
        exact cut56  _ _ _ (by omega) hl hP hD hS
      refine lv_iload_n (pc := 49) gX gB dM_ends_49 rfl (lv_at hl 3 rfl) ?_
      refine lv_iconst (pc := 50) (v := iv 4) gX gB dM_ends_50 rfl ?_
      refine jv_icmp_ge (pc := 51) (tgt := 56) gX gB dM_ends_51 (by decide) (by omega) (by decide) (fun h15 => ?_) (fun h15 => ?_)
      · skip
        exact cut56  _ _ _ (by omega) hl hP hD hS
      exact cut54  _ _ _ (by omega) hl hP hD hS
    refine lv_iload_n (pc := 36) gX gB dM_ends_36 rfl (lv_at hl 2 rfl) ?_
    refine jv_if_le (pc := 37) (tgt := 45) gX gB dM_ends_37 (by decide) (by omega) (fun h16 => ?_) (fun h16 => ?_)
    · skip
      exact cut45  _ _ _ (by omega) hl hP hD hS
    refine lv_iload_n (pc := 40) gX gB dM_ends_40 rfl (lv_at hl 2 rfl) ?_
    refine lv_iconst (pc := 41) (v := iv 4) gX gB dM_ends_41 rfl ?_
    refine jv_icmp_lt (pc := 42) (tgt := 54) gX gB dM_ends_42 (by decide) (by omega) (by decide) (fun h17 => ?_) (fun h17 => ?_)
    · skip
      exact cut54  _ _ _ (by omega) hl hP hD hS
    exact cut45  _ _ _ (by omega) hl hP hD hS
  refine lv_iload_n (pc := 24) gX gB dM_ends_24 rfl (lv_at hl 1 rfl) ?_
  refine lv_iconst (pc := 25) (v := iv 1) gX gB dM_ends_25 rfl ?_
  refine jv_icmp_ne (pc := 26) (tgt := 36) gX gB dM_ends_26 (by decide) (by omega) (by decide) (fun h18 => ?_) (fun h18 => ?_)
  · skip
    exact cut36  _ _ _ (by omega) (lv_sub hl [2, 3, 1, 0] rfl) hP hD hS
  refine lv_iload_n (pc := 29) gX gB dM_ends_29 rfl (lv_at hl 0 rfl) ?_
  refine lv_iconst (pc := 30) (v := iv 2) gX gB dM_ends_30 rfl ?_
  refine jv_icmp_ne (pc := 31) (tgt := 36) gX gB dM_ends_31 (by decide) (by omega) (by decide) (fun h19 => ?_) (fun h19 => ?_)
  · skip
    exact cut36  _ _ _ (by omega) (lv_sub hl [2, 3, 1, 0] rfl) hP hD hS
  refine lv_iconst (pc := 34) (v := iv 0) gX gB dM_ends_34 rfl ?_
  exact hret _ (0) dM_ends_35 (Or.inl rfl) ⟨rfl, by refine ⟨Or.inl rfl, ?_⟩; unfold evf; rw [if_pos (by omega)]⟩ hP hD hS
set_option maxRecDepth 100000 in
set_option maxHeartbeats 1000000 in
theorem c_M_cluster (l : Launch) (dC : Nat → ClassId) (dI : Nat → Nat → Nat) (cI : ClassId) (cZ : ClassId) (cG : ClassId) (cR : ClassId) (ad : Nat → Nat) (th : Int) (tb : Int → Int) (fi : Int → Int) (se : Int → Int) (lf : Int → Int) (ct : Int → Int) (ln : Int) (tx : Int → Int) (kl : Int → Int) (kp : Int → Int) (fl : Int) (fo : Int → Int) (ol : Int) (ot : Int → Int) (pl : Int → Int) (ky : Int) (nu : Int → Int) (yk : Int) (yn : Int → Int) (lc : Int → Int) (fw : Int → Int) (sd : Int → Int) (lw : Int → Int) (od : Int → Int) (sz : Nat) (i : Int) (hT : TBK tb) (hi : -2147483648 ≤ i ∧ i < 2147483648) (hl9 : 0 ≤ ln ∧ ln ≤ 40) (htx : ∀ j, 0 ≤ j → j < ln → 0 ≤ tx j ∧ tx j < 75) : Met l yM_cluster wsM_cluster ({ frames := 4, cells := 0, slots := 0, locals := 89 }) (va_Pc [.ref (ad 0), .int (iv i)] (jPre (dC, dI) (jT cI cZ cG cR) (pM cI cZ cG cR ad th tb fi se lf ct ln tx kl kp fl fo ol ot pl ky nu yk yn lc fw sd lw od) sz)) (va_Qi (fun (r0 : Int32) (u : Int × Int) => r0 = iv u.1 ∧ (((i < 0 ∨ ln < i) ∧ u.2 = 1) ∨ (0 ≤ i ∧ i ≤ ln ∧ u.2 = 0 ∧ u.1 = (if i = 0 ∨ i = ln then 1 else evf (czM tb) tx i)))) (fun u => jEnd (dC, dI) (jT cI cZ cG cR) (va_A (pM cI cZ cG cR ad th tb fi se lf ct ln tx kl kp fl fo ol ot pl ky nu yk yn lc fw sd lw od) sz) (pM cI cZ cG cR ad u.2 tb fi se lf ct ln tx kl kp fl fo ol ot pl ky nu yk yn lc fw sd lw od)) (va_A (pM cI cZ cG cR ad th tb fi se lf ct ln tx kl kp fl fo ol ot pl ky nu yk yn lc fw sd lw od) sz)) 0 0 (va_A (pM cI cZ cG cR ad th tb fi se lf ct ln tx kl kp fl fo ol ot pl ky nu yk yn lc fw sd lw od) sz) := by
  refine jv_mz (cc := cM_cluster) (maxL := 2) (by decide) rfl (Nat.le_of_ble_eq_true rfl) ?_
  intro p0 e0 s0 m0 a0 b0 t0 c0 R0 Q0 A0 ls gX gB hts hown hml hRf hRl hA hK hret hl hP hD hS
  have hown : s0.vm.findClass "TextPipelineModel" = some m0.cls := hown
  have hw0 : ∀ w ∈ WS0, w.before a0 s0 = true := fun w h => hts w (List.mem_cons_of_mem _ h)
  have hl : lv_has ls 2 [(0, .ref (ad 0)), (1, .int (iv i))] := hl
  have hRf : 4 ≤ R0.frames := hRf
  have hRl : 89 ≤ R0.locals := hRl
  refine lv_aload_n (pc := 0) gX gB dM_cluster_0 rfl (lv_at hl 0 rfl) ?_
  refine lv_aload_n (pc := 1) gX gB dM_cluster_1 rfl (lv_at hl 0 rfl) ?_
  refine lv_iload_n (pc := 2) gX gB dM_cluster_2 rfl (lv_at hl 1 rfl) ?_
  refine lv_aload_n (pc := 3) gX gB dM_cluster_3 rfl (lv_at hl 0 rfl) ?_
  refine va_get (pc := 4) (D := (dC, dI)) (ci := 5) (v := .int (iv ln)) (C := RM) (T := TM) (N := 24) gX gB hw0 inM hown hK hP 0 rfl rfl 6 (by decide) (hw0 _ q657) (fun _ h9 => h9) rfl dM_cluster_4 ?_
  refine lv_iconst (pc := 7) (v := iv 1) gX gB dM_cluster_7 rfl ?_
  refine jv_iadd (pc := 8) (x := ln) (y := 1) gX gB dM_cluster_8 ?_
  refine jv_ri (pc := 9) (wr := []) (wn := fun u : Int => (pM cI cZ cG cR ad th tb fi se lf ct ln tx kl kp fl fo ol ot pl ky nu yk yn lc fw sd lw od)) (va_runV (rest := [.ref (ad 0)]) ⟨gX, gB, hml, hown, hw0⟩ (c_M_noPlace l dC dI cI cZ cG cR ad th tb fi se lf ct ln tx kl kp fl fo ol ot pl ky nu yk yn lc fw sd lw od _ i (ln + 1) (by omega) (by omega)) (jcV hw0 kM_noPlace q752 rfl rfl ⟨Nat.le_trans (Nat.le_of_ble_eq_true rfl) hRf, Nat.le_trans (Nat.le_of_ble_eq_true rfl) hRl⟩) (jv_preV (ci := 5) (q0 := 0) hK hP hD [0, 1, 2, 3, 4, 5, 6, 7, 8, 9, 10, 11, 12, 13, 14, 15, 16, 17, 18] rfl (by decide) rfl rfl) rfl rfl hl.1 rfl (lv_room (Nat.le_of_ble_eq_true rfl)) dM_cluster_9 ⟨Nat.zero_le _, Nat.zero_le _⟩) hP hD hS hA [0, 1, 2, 3, 4, 5, 6, 7, 8, 9, 10, 11, 12, 13, 14, 15, 16, 17, 18] [] [0, 1, 2, 3, 4, 5, 6, 7, 8, 9, 10, 11, 12, 13, 14, 15, 16, 17, 18] rfl rfl (by decide) (by decide) (by decide) (fun _ => rfl) (fun r0 u H locs hw9 hP hD hS => ?_)
  obtain ⟨r_9, hu⟩ : ∃ z, z = u := ⟨_, rfl⟩; subst hu
  obtain ⟨rfl, hw9⟩ := hw9
  refine jv_if_eq (pc := 12) (tgt := 19) gX gB dM_cluster_12 (by decide) (by omega) (fun h1 => ?_) (fun h1 => ?_)
  · skip
    refine lv_iconst (pc := 19) (v := iv 0) gX gB dM_cluster_19 rfl ?_
    refine jv_put (pc := 20) (D := (dC, dI)) (ci := 5) (v := .int (iv 0)) (ty := .int) (C := RM) (T := TM) (N := 24) (ws' := (pM cI cZ cG cR ad 0 tb fi se lf ct ln tx kl kp fl fo ol ot pl ky nu yk yn lc fw sd lw od)) gX gB hw0 inM tyM tyM_ok nmM hown hK hP hD hS 0 rfl rfl 0 (by decide) (hw0 _ q651) (fun _ h9 => h9) rfl (by decide +kernel) rfl rfl (Nat.le_of_ble_eq_true rfl) dM_cluster_20 rfl (fun H locs hP hD hS => ?_)
    refine lv_aload_n (pc := 23) gX gB dM_cluster_23 rfl (lv_at hl 0 rfl) ?_
    refine va_get (pc := 24) (D := (dC, dI)) (ci := 5) (v := .int (iv 0)) (C := RM) (T := TM) (N := 24) gX gB hw0 inM hown hK hP 0 rfl rfl 0 (by decide) (hw0 _ q651) (fun _ h9 => h9) rfl dM_cluster_24 ?_
    refine jv_if_ne (pc := 27) (tgt := 54) gX gB dM_cluster_27 (by decide) (by decide) (fun h2 => ?_) (fun h2 => ?_)
    · exact absurd h2 (by decide)
    refine lv_iload_n (pc := 30) gX gB dM_cluster_30 rfl (lv_at hl 1 rfl) ?_
    refine jv_if_eq (pc := 31) (tgt := 50) gX gB dM_cluster_31 (by decide) (by omega) (fun h3 => ?_) (fun h3 => ?_)
    · skip
      refine lv_iconst (pc := 50) (v := iv 1) gX gB dM_cluster_50 rfl ?_
      refine lv_goto (pc := 51) (tgt := 55) gX gB dM_cluster_51 (by decide) ?_
      exact hret _ (1, 0) dM_cluster_55 (Or.inr rfl) ⟨rfl, by first | (dsimp only; first | exact Or.inl ⟨by omega, rfl⟩ | exact Or.inr ⟨by omega, by omega, rfl, by rw [if_pos (by omega)]⟩ | exact Or.inr ⟨by omega, by omega, rfl, by rw [if_neg (by omega)]; omega⟩) | (first | exact Or.inl ⟨by omega, rfl⟩ | exact Or.inr ⟨by omega, by omega, rfl, by rw [if_pos (by omega)]⟩ | exact Or.inr ⟨by omega, by omega, rfl, by rw [if_neg (by omega)]; omega⟩)⟩ hP hD hS
    refine lv_iload_n (pc := 34) gX gB dM_cluster_34 rfl (lv_at hl 1 rfl) ?_
    refine lv_aload_n (pc := 35) gX gB dM_cluster_35 rfl (lv_at hl 0 rfl) ?_
    refine va_get (pc := 36) (D := (dC, dI)) (ci := 5) (v := .int (iv ln)) (C := RM) (T := TM) (N := 24) gX gB hw0 inM hown hK hP 0 rfl rfl 6 (by decide) (hw0 _ q657) (fun _ h9 => h9) rfl dM_cluster_36 ?_
    refine jv_icmp_eq (pc := 39) (tgt := 50) gX gB dM_cluster_39 (by decide) (by omega) (by omega) (fun h4 => ?_) (fun h4 => ?_)
    · skip
      refine lv_iconst (pc := 50) (v := iv 1) gX gB dM_cluster_50 rfl ?_
      refine lv_goto (pc := 51) (tgt := 55) gX gB dM_cluster_51 (by decide) ?_
      exact hret _ (1, 0) dM_cluster_55 (Or.inr rfl) ⟨rfl, by first | (dsimp only; first | exact Or.inl ⟨by omega, rfl⟩ | exact Or.inr ⟨by omega, by omega, rfl, by rw [if_pos (by omega)]⟩ | exact Or.inr ⟨by omega, by omega, rfl, by rw [if_neg (by omega)]; omega⟩) | (first | exact Or.inl ⟨by omega, rfl⟩ | exact Or.inr ⟨by omega, by omega, rfl, by rw [if_pos (by omega)]⟩ | exact Or.inr ⟨by omega, by omega, rfl, by rw [if_neg (by omega)]; omega⟩)⟩ hP hD hS
    refine lv_aload_n (pc := 42) gX gB dM_cluster_42 rfl (lv_at hl 0 rfl) ?_
    refine lv_iload_n (pc := 43) gX gB dM_cluster_43 rfl (lv_at hl 1 rfl) ?_
    refine jv_ri (pc := 44) (wr := []) (wn := fun u : Int => (pM cI cZ cG cR ad 0 tb fi se lf ct ln tx kl kp fl fo ol ot pl ky nu yk yn lc fw sd lw od)) (va_runV (rest := []) ⟨gX, gB, hml, hown, hw0⟩ (c_M_ends l dC dI cI cZ cG cR ad 0 tb fi se lf ct ln tx kl kp fl fo ol ot pl ky nu yk yn lc fw sd lw od _ i (by omega) (by omega) (by exact fun j a b => htx j a (by omega))) (jcV hw0 kM_ends q820 rfl rfl ⟨Nat.le_trans (Nat.le_of_ble_eq_true rfl) hRf, Nat.le_trans (Nat.le_of_ble_eq_true rfl) hRl⟩) (jv_preV (ci := 5) (q0 := 0) hK hP hD [0, 1, 2, 3, 4, 5, 6, 7, 8, 9, 10, 11, 12, 13, 14, 15, 16, 17, 18] rfl (by decide) rfl rfl) rfl rfl hl.1 rfl (lv_room (Nat.le_of_ble_eq_true rfl)) dM_cluster_44 ⟨Nat.zero_le _, Nat.zero_le _⟩) hP hD hS hA [0, 1, 2, 3, 4, 5, 6, 7, 8, 9, 10, 11, 12, 13, 14, 15, 16, 17, 18] [] [0, 1, 2, 3, 4, 5, 6, 7, 8, 9, 10, 11, 12, 13, 14, 15, 16, 17, 18] rfl rfl (by decide) (by decide) (by decide) (fun _ => rfl) (fun r0 u H locs hw44 hP hD hS => ?_)
    obtain ⟨r_44, hu⟩ : ∃ z, z = u := ⟨_, rfl⟩; subst hu
    obtain ⟨rfl, hw44⟩ := hw44
    refine jv_if_eq (pc := 47) (tgt := 54) gX gB dM_cluster_47 (by decide) (by omega) (fun h5 => ?_) (fun h5 => ?_)
    · skip
      refine lv_iconst (pc := 54) (v := iv 0) gX gB dM_cluster_54 rfl ?_
      exact hret _ (0, 0) dM_cluster_55 (Or.inl rfl) ⟨rfl, by first | (dsimp only; first | exact Or.inl ⟨by omega, rfl⟩ | exact Or.inr ⟨by omega, by omega, rfl, by rw [if_pos (by omega)]⟩ | exact Or.inr ⟨by omega, by omega, rfl, by rw [if_neg (by omega)]; omega⟩) | (first | exact Or.inl ⟨by omega, rfl⟩ | exact Or.inr ⟨by omega, by omega, rfl, by rw [if_pos (by omega)]⟩ | exact Or.inr ⟨by omega, by omega, rfl, by rw [if_neg (by omega)]; omega⟩)⟩ hP hD hS
    refine lv_iconst (pc := 50) (v := iv 1) gX gB dM_cluster_50 rfl ?_
    refine lv_goto (pc := 51) (tgt := 55) gX gB dM_cluster_51 (by decide) ?_
    exact hret _ (1, 0) dM_cluster_55 (Or.inr rfl) ⟨rfl, by first | (dsimp only; first | exact Or.inl ⟨by omega, rfl⟩ | exact Or.inr ⟨by omega, by omega, rfl, by rw [if_pos (by omega)]⟩ | exact Or.inr ⟨by omega, by omega, rfl, by rw [if_neg (by omega)]; omega⟩) | (first | exact Or.inl ⟨by omega, rfl⟩ | exact Or.inr ⟨by omega, by omega, rfl, by rw [if_pos (by omega)]⟩ | exact Or.inr ⟨by omega, by omega, rfl, by rw [if_neg (by omega)]; omega⟩)⟩ hP hD hS
  refine lv_iconst (pc := 15) (v := iv 1) gX gB dM_cluster_15 rfl ?_
  refine lv_goto (pc := 16) (tgt := 20) gX gB dM_cluster_16 (by decide) ?_
  refine jv_put (pc := 20) (D := (dC, dI)) (ci := 5) (v := .int (iv 1)) (ty := .int) (C := RM) (T := TM) (N := 24) (ws' := (pM cI cZ cG cR ad 1 tb fi se lf ct ln tx kl kp fl fo ol ot pl ky nu yk yn lc fw sd lw od)) gX gB hw0 inM tyM tyM_ok nmM hown hK hP hD hS 0 rfl rfl 0 (by decide) (hw0 _ q651) (fun _ h9 => h9) rfl (by decide +kernel) rfl rfl (Nat.le_of_ble_eq_true rfl) dM_cluster_20 rfl (fun H locs hP hD hS => ?_)
  refine lv_aload_n (pc := 23) gX gB dM_cluster_23 rfl (lv_at hl 0 rfl) ?_
  refine va_get (pc := 24) (D := (dC, dI)) (ci := 5) (v := .int (iv 1)) (C := RM) (T := TM) (N := 24) gX gB hw0 inM hown hK hP 0 rfl rfl 0 (by decide) (hw0 _ q651) (fun _ h9 => h9) rfl dM_cluster_24 ?_
  refine jv_if_ne (pc := 27) (tgt := 54) gX gB dM_cluster_27 (by decide) (by decide) (fun h6 => ?_) (fun h6 => ?_)
  rotate_left
  · exact absurd h6 (by decide)
  refine lv_iconst (pc := 54) (v := iv 0) gX gB dM_cluster_54 rfl ?_
  exact hret _ (0, 1) dM_cluster_55 (Or.inl rfl) ⟨rfl, by first | (dsimp only; first | exact Or.inl ⟨by omega, rfl⟩ | exact Or.inr ⟨by omega, by omega, rfl, by rw [if_pos (by omega)]⟩ | exact Or.inr ⟨by omega, by omega, rfl, by rw [if_neg (by omega)]; omega⟩) | (first | exact Or.inl ⟨by omega, rfl⟩ | exact Or.inr ⟨by omega, by omega, rfl, by rw [if_pos (by omega)]⟩ | exact Or.inr ⟨by omega, by omega, rfl, by rw [if_neg (by omega)]; omega⟩)⟩ hP hD hS
set_option maxRecDepth 100000 in
set_option maxHeartbeats 1000000 in
theorem c_M_clusters (l : Launch) (dC : Nat → ClassId) (dI : Nat → Nat → Nat) (cI : ClassId) (cZ : ClassId) (cG : ClassId) (cR : ClassId) (ad : Nat → Nat) (th : Int) (tb : Int → Int) (fi : Int → Int) (se : Int → Int) (lf : Int → Int) (ct : Int → Int) (ln : Int) (tx : Int → Int) (kl : Int → Int) (kp : Int → Int) (fl : Int) (fo : Int → Int) (ol : Int) (ot : Int → Int) (pl : Int → Int) (ky : Int) (nu : Int → Int) (yk : Int) (yn : Int → Int) (lc : Int → Int) (fw : Int → Int) (sd : Int → Int) (lw : Int → Int) (od : Int → Int) (sz : Nat) (hT : TBK tb) (hl9 : 0 ≤ ln ∧ ln ≤ 40) (htx : ∀ j, 0 ≤ j → j < ln → 0 ≤ tx j ∧ tx j < 75) : Met l yM_clusters wsM_clusters ({ frames := 4, cells := 0, slots := 0, locals := 89 }) (va_Pc [.ref (ad 0)] (jPre (dC, dI) (jT cI cZ cG cR) (pM cI cZ cG cR ad th tb fi se lf ct ln tx kl kp fl fo ol ot pl ky nu yk yn lc fw sd lw od) sz)) (va_Qi (fun (r0 : Int32) (u : Int × Int) => r0 = iv u.1 ∧ (u.2 = 0 ∧ u.1 = (if ln = 0 then 0 else 1 + csm (evf (czM tb) tx) (ln - 1).toNat))) (fun u => jEnd (dC, dI) (jT cI cZ cG cR) (va_A (pM cI cZ cG cR ad th tb fi se lf ct ln tx kl kp fl fo ol ot pl ky nu yk yn lc fw sd lw od) sz) (pM cI cZ cG cR ad u.2 tb fi se lf ct ln tx kl kp fl fo ol ot pl ky nu yk yn lc fw sd lw od)) (va_A (pM cI cZ cG cR ad th tb fi se lf ct ln tx kl kp fl fo ol ot pl ky nu yk yn lc fw sd lw od) sz)) 0 0 (va_A (pM cI cZ cG cR ad th tb fi se lf ct ln tx kl kp fl fo ol ot pl ky nu yk yn lc fw sd lw od) sz) := by
  refine jv_mi (cc := cM_clusters) (maxL := 3) (by decide) rfl (Nat.le_of_ble_eq_true rfl) ?_
  intro p0 e0 s0 m0 a0 b0 t0 c0 R0 Q0 A0 ls gX gB hts hown hml hRf hRl hA hK hret hl hP hD hS
  have hown : s0.vm.findClass "TextPipelineModel" = some m0.cls := hown
  have hw0 : ∀ w ∈ WS0, w.before a0 s0 = true := fun w h => hts w (List.mem_cons_of_mem _ h)
  have hl : lv_has ls 3 [(0, .ref (ad 0))] := hl
  have hRf : 4 ≤ R0.frames := hRf
  have hRl : 89 ≤ R0.locals := hRl
  refine lv_aload_n (pc := 0) gX gB dM_clusters_0 rfl (lv_at hl 0 rfl) ?_
  refine lv_iconst (pc := 1) (v := iv 0) gX gB dM_clusters_1 rfl ?_
  refine jv_put (pc := 2) (D := (dC, dI)) (ci := 5) (v := .int (iv 0)) (ty := .int) (C := RM) (T := TM) (N := 24) (ws' := (pM cI cZ cG cR ad 0 tb fi se lf ct ln tx kl kp fl fo ol ot pl ky nu yk yn lc fw sd lw od)) gX gB hw0 inM tyM tyM_ok nmM hown hK hP hD hS 0 rfl rfl 0 (by decide) (hw0 _ q651) (fun _ h9 => h9) rfl (by decide +kernel) rfl rfl (Nat.le_of_ble_eq_true rfl) dM_clusters_2 rfl (fun H locs hP hD hS => ?_)
  have cut17 : ∀ (x : Int) (ls : Array Slot) (H : Heap) (locs : List Loc), ((ln = 0 ∧ x = 0) ∨ (0 < ln ∧ x = 1)) → lv_has ls 3 [(0, .ref (ad 0))] → va_P (dC, dI) vwCl (pM cI cZ cG cR ad 0 tb fi se lf ct ln tx kl kp fl fo ol ot pl ky nu yk yn lc fw sd lw od) H → va_D A0 (pM cI cZ cG cR ad 0 tb fi se lf ct ln tx kl kp fl fo ol ot pl ky nu yk yn lc fw sd lw od) → va_S A0 s0.heap H locs → W p0 l e0 R0 s0 m0 a0 b0 t0 c0 H locs 0 0 Q0 (F0 m0 17 ls [.int (iv x)]) := by
    intro x ls H locs hx1 hl hP hD hS
    refine lv_istore_n (pc := 17) (lv' := [(1, .int (iv x)), (0, .ref (ad 0))]) gX gB dM_clusters_17 rfl hl (by decide) rfl (fun ls hl => ?_)
    refine lv_iconst (pc := 18) (v := iv 1) gX gB dM_clusters_18 rfl ?_
    refine lv_istore_n (pc := 19) (lv' := [(2, .int (iv 1)), (1, .int (iv x)), (0, .ref (ad 0))]) gX gB dM_clusters_19 rfl hl (by decide) rfl (fun ls hl => ?_)
    have cut20 : ∀ (n0 : Nat) (n : Int) (i : Int) (ls : Array Slot) (H : Heap) (locs : List Loc), (1 ≤ i ∧ i ≤ 40 ∧ (i ≤ ln ∨ (ln = 0 ∧ i = 1))) → (n = x + csm (evf (czM tb) tx) (i - 1).toNat) → ((ln - i : Int).toNat < n0) → lv_has ls 3 [(0, .ref (ad 0)), (1, .int (iv n)), (2, .int (iv i))] → va_P (dC, dI) vwCl (pM cI cZ cG cR ad 0 tb fi se lf ct ln tx kl kp fl fo ol ot pl ky nu yk yn lc fw sd lw od) H → va_D A0 (pM cI cZ cG cR ad 0 tb fi se lf ct ln tx kl kp fl fo ol ot pl ky nu yk yn lc fw sd lw od) → va_S A0 s0.heap H locs → W p0 l e0 R0 s0 m0 a0 b0 t0 c0 H locs 0 0 Q0 (F0 m0 20 ls []) := by
      intro n0
      induction n0 with
      | zero => intro n i ls H locs hi hn hm hl hP hD hS; exact absurd hm (Nat.not_lt_zero _)
      | succ n0 ih20 =>
        intro n i ls H locs hi hn hm20 hl hP hD hS
        refine lv_iload_n (pc := 20) gX gB dM_clusters_20 rfl (lv_at hl 2 rfl) ?_
        refine lv_aload_n (pc := 21) gX gB dM_clusters_21 rfl (lv_at hl 0 rfl) ?_
        refine va_get (pc := 22) (D := (dC, dI)) (ci := 5) (v := .int (iv ln)) (C := RM) (T := TM) (N := 24) gX gB hw0 inM hown hK hP 0 rfl rfl 6 (by decide) (hw0 _ q657) (fun _ h9 => h9) rfl dM_clusters_22 ?_
        refine jv_icmp_ge (pc := 25) (tgt := 50) gX gB dM_clusters_25 (by decide) (by omega) (by omega) (fun h1 => ?_) (fun h1 => ?_)
        · skip
          refine lv_iload_n (pc := 50) gX gB dM_clusters_50 rfl (lv_at hl 1 rfl) ?_
          exact hret _ (n, 0) dM_clusters_51 ⟨rfl, by first | (dsimp only; refine ⟨rfl, ?_⟩; by_cases h0 : ln = 0; (rw [if_pos h0, hn, show (i - 1).toNat = 0 by omega]; show x + 0 = 0; omega); (rw [if_neg h0, hn, show i = ln by omega]; omega)) | (refine ⟨rfl, ?_⟩; by_cases h0 : ln = 0; (rw [if_pos h0, hn, show (i - 1).toNat = 0 by omega]; show x + 0 = 0; omega); (rw [if_neg h0, hn, show i = ln by omega]; omega))⟩ hP hD hS
        have hcr := csm_rng (evf_01 (czM tb) tx) (i - 1).toNat
        refine lv_iload_n (pc := 28) gX gB dM_clusters_28 rfl (lv_at hl 1 rfl) ?_
        have cut42 : ∀ (y : Int) (ls : Array Slot) (H : Heap) (locs : List Loc), (y = evf (czM tb) tx i) → lv_has ls 3 [(0, .ref (ad 0)), (1, .int (iv n)), (2, .int (iv i))] → va_P (dC, dI) vwCl (pM cI cZ cG cR ad 0 tb fi se lf ct ln tx kl kp fl fo ol ot pl ky nu yk yn lc fw sd lw od) H → va_D A0 (pM cI cZ cG cR ad 0 tb fi se lf ct ln tx kl kp fl fo ol ot pl ky nu yk yn lc fw sd lw od) → va_S A0 s0.heap H locs → W p0 l e0 R0 s0 m0 a0 b0 t0 c0 H locs 0 0 Q0 (F0 m0 42 ls [.int (iv y), .int (iv n)]) := by
          intro y ls H locs hy1 hl hP hD hS
          refine jv_iadd (pc := 42) (x := n) (y := y) gX gB dM_clusters_42 ?_
          refine lv_istore_n (pc := 43) (lv' := [(1, .int (iv (n + y))), (0, .ref (ad 0)), (2, .int (iv i))]) gX gB dM_clusters_43 rfl hl (by decide) rfl (fun ls hl => ?_)
          refine jv_iinc (pc := 44) (k := 2) (x := i) (n := 1) (lv' := [(2, .int (iv (i + 1))), (1, .int (iv (n + y))), (0, .ref (ad 0))]) gX gB dM_clusters_44 hl rfl (by decide) rfl (fun ls hl => ?_)
          refine lv_goto (pc := 47) (tgt := 20) gX gB dM_clusters_47 (by decide) ?_
          exact ih20 (n + y) (i + 1) _ _ _ (by omega) (by have h9 := csm_s (e := evf (czM tb) tx) (s := i - 1) (by omega); rw [show i - 1 + 1 = i by omega] at h9; rw [show i + 1 - 1 = i by omega]; omega) (by omega) (lv_sub hl [2, 1, 0] rfl) hP hD hS
        refine lv_aload_n (pc := 29) gX gB dM_clusters_29 rfl (lv_at hl 0 rfl) ?_
        refine lv_iload_n (pc := 30) gX gB dM_clusters_30 rfl (lv_at hl 2 rfl) ?_
        refine jv_ri (pc := 31) (wr := []) (wn := fun u : Int => (pM cI cZ cG cR ad 0 tb fi se lf ct ln tx kl kp fl fo ol ot pl ky nu yk yn lc fw sd lw od)) (va_runV (rest := [.int (iv n)]) ⟨gX, gB, hml, hown, hw0⟩ (c_M_ends l dC dI cI cZ cG cR ad 0 tb fi se lf ct ln tx kl kp fl fo ol ot pl ky nu yk yn lc fw sd lw od _ i (by omega) (by omega) (by exact fun j a b => htx j a (by omega))) (jcV hw0 kM_ends q820 rfl rfl ⟨Nat.le_trans (Nat.le_of_ble_eq_true rfl) hRf, Nat.le_trans (Nat.le_of_ble_eq_true rfl) hRl⟩) (jv_preV (ci := 5) (q0 := 0) hK hP hD [0, 1, 2, 3, 4, 5, 6, 7, 8, 9, 10, 11, 12, 13, 14, 15, 16, 17, 18] rfl (by decide) rfl rfl) rfl rfl hl.1 rfl (lv_room (Nat.le_of_ble_eq_true rfl)) dM_clusters_31 ⟨Nat.zero_le _, Nat.zero_le _⟩) hP hD hS hA [0, 1, 2, 3, 4, 5, 6, 7, 8, 9, 10, 11, 12, 13, 14, 15, 16, 17, 18] [] [0, 1, 2, 3, 4, 5, 6, 7, 8, 9, 10, 11, 12, 13, 14, 15, 16, 17, 18] rfl rfl (by decide) (by decide) (by decide) (fun _ => rfl) (fun r0 u H locs hw31 hP hD hS => ?_)
        obtain ⟨r_31, hu⟩ : ∃ z, z = u := ⟨_, rfl⟩; subst hu
        obtain ⟨rfl, hw31⟩ := hw31
        refine jv_if_eq (pc := 34) (tgt := 41) gX gB dM_clusters_34 (by decide) (by omega) (fun h2 => ?_) (fun h2 => ?_)
        · skip
          refine lv_iconst (pc := 41) (v := iv 0) gX gB dM_clusters_41 rfl ?_
          exact cut42 0 _ _ _ (by omega) hl hP hD hS
        refine lv_iconst (pc := 37) (v := iv 1) gX gB dM_clusters_37 rfl ?_
        refine lv_goto (pc := 38) (tgt := 42) gX gB dM_clusters_38 (by decide) ?_
        exact cut42 1 _ _ _ (by omega) hl hP hD hS
    exact cut20 (((ln - 1 : Int).toNat) + 1) x 1 _ _ _ (by omega) (by show x = x + csm _ 0; show x = x + 0; omega) (Nat.lt_succ_self _) (lv_sub hl [2, 1, 0] rfl) hP hD hS
  refine lv_aload_n (pc := 5) gX gB dM_clusters_5 rfl (lv_at hl 0 rfl) ?_
  refine va_get (pc := 6) (D := (dC, dI)) (ci := 5) (v := .int (iv ln)) (C := RM) (T := TM) (N := 24) gX gB hw0 inM hown hK hP 0 rfl rfl 6 (by decide) (hw0 _ q657) (fun _ h9 => h9) rfl dM_clusters_6 ?_
  refine jv_if_le (pc := 9) (tgt := 16) gX gB dM_clusters_9 (by decide) (by omega) (fun h3 => ?_) (fun h3 => ?_)
  · skip
    refine lv_iconst (pc := 16) (v := iv 0) gX gB dM_clusters_16 rfl ?_
    exact cut17 0 _ _ _ (by omega) hl hP hD hS
  refine lv_iconst (pc := 12) (v := iv 1) gX gB dM_clusters_12 rfl ?_
  refine lv_goto (pc := 13) (tgt := 17) gX gB dM_clusters_13 (by decide) ?_
  exact cut17 1 _ _ _ (by omega) hl hP hD hS
