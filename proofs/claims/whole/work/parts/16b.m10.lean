set_option maxRecDepth 100000 in
set_option maxHeartbeats 2000000 in
theorem c_M_findKey (l : Launch) (dC : Nat → ClassId) (dI : Nat → Nat → Nat) (cI : ClassId) (cZ : ClassId) (cG : ClassId) (cR : ClassId) (ad : Nat → Nat) (th : Int) (tb : Int → Int) (fi : Int → Int) (se : Int → Int) (lf : Int → Int) (ct : Int → Int) (ln : Int) (tx : Int → Int) (kl : Int → Int) (kp : Int → Int) (fl : Int) (fo : Int → Int) (ol : Int) (ot : Int → Int) (pl : Int → Int) (ky : Int) (nu : Int → Int) (yk : Int) (yn : Int → Int) (lc : Int → Int) (fw : Int → Int) (sd : Int → Int) (lw : Int → Int) (od : Int → Int) (sz : Nat) (hT : TBK tb) (hf : 0 ≤ fl ∧ fl ≤ 160) (hfo : ∀ j, 0 ≤ j → j < fl → 0 ≤ fo j ∧ fo j < 75) : Met l yM_findKey wsM_findKey ({ frames := 2, cells := 0, slots := 0, locals := 44 }) (va_Pc [.ref (ad 0)] (jPre (dC, dI) (jT cI cZ cG cR) (pM cI cZ cG cR ad th tb fi se lf ct ln tx kl kp fl fo ol ot pl ky nu yk yn lc fw sd lw od) sz)) (va_Qv (fun u : Int × (Int → Int) => 0 ≤ u.1 ∧ u.1 ≤ 486 ∧ rsg u.2 u.1.toNat = (kpf (wtM tb) (sg fo 0 fl.toNat) 3).reverse) (fun u => jEnd (dC, dI) (jT cI cZ cG cR) (va_A (pM cI cZ cG cR ad th tb fi se lf ct ln tx kl kp fl fo ol ot pl ky nu yk yn lc fw sd lw od) sz) (pM cI cZ cG cR ad th tb fi se lf ct ln tx kl kp fl fo ol ot pl u.1 u.2 yk yn lc fw sd lw od)) (va_A (pM cI cZ cG cR ad th tb fi se lf ct ln tx kl kp fl fo ol ot pl ky nu yk yn lc fw sd lw od) sz)) 0 0 (va_A (pM cI cZ cG cR ad th tb fi se lf ct ln tx kl kp fl fo ol ot pl ky nu yk yn lc fw sd lw od) sz) := by
  refine jv_mv (cc := cM_findKey) (maxL := 4) (by decide) rfl (Nat.le_of_ble_eq_true rfl) ?_
  intro p0 e0 s0 m0 a0 b0 t0 c0 R0 Q0 A0 ls gX gB hts hown hml hRf hRl hA hK hret hl hP hD hS
  have hown : s0.vm.findClass "TextPipelineModel" = some m0.cls := hown
  have hw0 : ∀ w ∈ WS0, w.before a0 s0 = true := fun w h => hts w (List.mem_cons_of_mem _ h)
  have hl : lv_has ls 4 [(0, .ref (ad 0))] := hl
  have hRf : 2 ≤ R0.frames := hRf
  have hRl : 44 ≤ R0.locals := hRl
  refine lv_aload_n (pc := 0) gX gB dM_findKey_0 rfl (lv_at hl 0 rfl) ?_
  refine lv_iconst (pc := 1) (v := iv 0) gX gB dM_findKey_1 rfl ?_
  refine jv_put (pc := 2) (D := (dC, dI)) (ci := 5) (v := .int (iv 0)) (ty := .int) (C := RM) (T := TM) (N := 24) (ws' := (pM cI cZ cG cR ad th tb fi se lf ct ln tx kl kp fl fo ol ot pl 0 nu yk yn lc fw sd lw od)) gX gB hw0 inM tyM tyM_ok nmM hown hK hP hD hS 0 rfl rfl 15 (by decide) (hw0 _ q666) (fun _ h9 => h9) rfl (by decide +kernel) rfl rfl (Nat.le_of_ble_eq_true rfl) dM_findKey_2 rfl (fun H locs hP hD hS => ?_)
  refine lv_iconst (pc := 5) (v := iv 0) gX gB dM_findKey_5 rfl ?_
  refine lv_istore_n (pc := 6) (lv' := [(1, .int (iv 0)), (0, .ref (ad 0))]) gX gB dM_findKey_6 rfl hl (by decide) rfl (fun ls hl => ?_)
  have cut7 : ∀ (n0 : Nat) (k : Int) (ky1 : Int) (nu1 : Int → Int) (ls : Array Slot) (H : Heap) (locs : List Loc), (0 ≤ k ∧ k ≤ 3) → (0 ≤ ky1 ∧ ky1 ≤ 161 * k) → (rsg nu1 ky1.toNat = (kpf (wtM tb) (sg fo 0 fl.toNat) k.toNat).reverse) → ((3 - k : Int).toNat < n0) → lv_has ls 4 [(0, .ref (ad 0)), (1, .int (iv k))] → va_P (dC, dI) vwCl (pM cI cZ cG cR ad th tb fi se lf ct ln tx kl kp fl fo ol ot pl ky1 nu1 yk yn lc fw sd lw od) H → va_D A0 (pM cI cZ cG cR ad th tb fi se lf ct ln tx kl kp fl fo ol ot pl ky1 nu1 yk yn lc fw sd lw od) → va_S A0 s0.heap H locs → W p0 l e0 R0 s0 m0 a0 b0 t0 c0 H locs 0 0 Q0 (F0 m0 7 ls []) := by
    intro n0
    induction n0 with
    | zero => intro k ky1 nu1 ls H locs hk hy1 he1 hm hl hP hD hS; exact absurd hm (Nat.not_lt_zero _)
    | succ n0 ih7 =>
      intro k ky1 nu1 ls H locs hk hy1 he1 hm7 hl hP hD hS
      refine lv_iload_n (pc := 7) gX gB dM_findKey_7 rfl (lv_at hl 1 rfl) ?_
      refine lv_iconst (pc := 8) (v := iv 3) gX gB dM_findKey_8 rfl ?_
      refine jv_icmp_ge (pc := 9) (tgt := 94) gX gB dM_findKey_9 (by decide) (by omega) (by decide) (fun h1 => ?_) (fun h1 => ?_)
      · skip
        exact hret (ky1, nu1) dM_findKey_94 (by first | (dsimp only; exact ⟨by omega, by omega, by rw [he1, show k = 3 by omega]; rfl⟩) | (exact ⟨by omega, by omega, by rw [he1, show k = 3 by omega]; rfl⟩)) hP hD hS
      have cut36 : ∀ (ky2 : Int) (nu2 : Int → Int) (ls : Array Slot) (H : Heap) (locs : List Loc), (0 ≤ ky2 ∧ ky2 ≤ 161 * k + 1) → (rsg nu2 ky2.toNat = (kpf (wtM tb) (sg fo 0 fl.toNat) k.toNat ++ (if k = 0 then [] else [0])).reverse) → lv_has ls 4 [(0, .ref (ad 0)), (1, .int (iv k))] → va_P (dC, dI) vwCl (pM cI cZ cG cR ad th tb fi se lf ct ln tx kl kp fl fo ol ot pl ky2 nu2 yk yn lc fw sd lw od) H → va_D A0 (pM cI cZ cG cR ad th tb fi se lf ct ln tx kl kp fl fo ol ot pl ky2 nu2 yk yn lc fw sd lw od) → va_S A0 s0.heap H locs → W p0 l e0 R0 s0 m0 a0 b0 t0 c0 H locs 0 0 Q0 (F0 m0 36 ls []) := by
        intro ky2 nu2 ls H locs hy2 he2 hl hP hD hS
        refine lv_iconst (pc := 36) (v := iv 0) gX gB dM_findKey_36 rfl ?_
        refine lv_istore_n (pc := 37) (lv' := [(2, .int (iv 0)), (0, .ref (ad 0)), (1, .int (iv k))]) gX gB dM_findKey_37 rfl hl (by decide) rfl (fun ls hl => ?_)
        have cut38 : ∀ (n0 : Nat) (i : Int) (ky3 : Int) (nu3 : Int → Int) (ls : Array Slot) (H : Heap) (locs : List Loc), (0 ≤ i ∧ i ≤ fl) → (0 ≤ ky3 ∧ ky3 ≤ 161 * k + 1 + i) → (rsg nu3 ky3.toNat = (kpf (wtM tb) (sg fo 0 fl.toNat) k.toNat ++ (if k = 0 then [] else [0]) ++ kw (wtM tb k) (sg fo 0 i.toNat)).reverse) → ((fl - i : Int).toNat < n0) → lv_has ls 4 [(0, .ref (ad 0)), (1, .int (iv k)), (2, .int (iv i))] → va_P (dC, dI) vwCl (pM cI cZ cG cR ad th tb fi se lf ct ln tx kl kp fl fo ol ot pl ky3 nu3 yk yn lc fw sd lw od) H → va_D A0 (pM cI cZ cG cR ad th tb fi se lf ct ln tx kl kp fl fo ol ot pl ky3 nu3 yk yn lc fw sd lw od) → va_S A0 s0.heap H locs → W p0 l e0 R0 s0 m0 a0 b0 t0 c0 H locs 0 0 Q0 (F0 m0 38 ls []) := by
          intro n0
          induction n0 with
          | zero => intro i ky3 nu3 ls H locs hi hy3 he3 hm hl hP hD hS; exact absurd hm (Nat.not_lt_zero _)
          | succ n0 ih38 =>
            intro i ky3 nu3 ls H locs hi hy3 he3 hm38 hl hP hD hS
            refine lv_iload_n (pc := 38) gX gB dM_findKey_38 rfl (lv_at hl 2 rfl) ?_
            refine lv_aload_n (pc := 39) gX gB dM_findKey_39 rfl (lv_at hl 0 rfl) ?_
            refine va_get (pc := 40) (D := (dC, dI)) (ci := 5) (v := .int (iv fl)) (C := RM) (T := TM) (N := 24) gX gB hw0 inM hown hK hP 0 rfl rfl 10 (by decide) (hw0 _ q661) (fun _ h9 => h9) rfl dM_findKey_40 ?_
            refine jv_icmp_ge (pc := 43) (tgt := 88) gX gB dM_findKey_43 (by decide) (by omega) (by omega) (fun h2 => ?_) (fun h2 => ?_)
            · skip
              refine jv_iinc (pc := 88) (k := 1) (x := k) (n := 1) (lv' := [(1, .int (iv (k + 1))), (0, .ref (ad 0)), (2, .int (iv i))]) gX gB dM_findKey_88 hl rfl (by decide) rfl (fun ls hl => ?_)
              refine lv_goto (pc := 91) (tgt := 7) gX gB dM_findKey_91 (by decide) ?_
              exact ih7 (k + 1) ky3 nu3 _ _ _ (by omega) (by omega) (by rw [he3, kpf_s (by omega), show i = fl by omega]) (by omega) (lv_sub hl [1, 0] rfl) hP hD hS
            have hfi := hfo i (by omega) (by omega)
            have hsn : kw (wtM tb k) (sg fo 0 (i + 1).toNat) = kw (wtM tb k) (sg fo 0 i.toNat) ++ (if wtM tb k (fo i) = 0 then [] else [wtM tb k (fo i)]) := by rw [show (i + 1).toNat = i.toNat + 1 by omega, sg_snoc, show (0 : Int) + (i.toNat : Int) = i by omega]; exact kw_snoc _ _ _
            refine lv_aload_n (pc := 46) gX gB dM_findKey_46 rfl (lv_at hl 0 rfl) ?_
            refine lv_aload_n (pc := 47) gX gB dM_findKey_47 rfl (lv_at hl 0 rfl) ?_
            refine va_get (pc := 48) (D := (dC, dI)) (ci := 5) (v := .ref (ad 11)) (C := RM) (T := TM) (N := 24) gX gB hw0 inM hown hK hP 0 rfl rfl 11 (by decide) (hw0 _ q662) (fun _ h9 => h9) rfl dM_findKey_48 ?_
            refine lv_iload_n (pc := 51) gX gB dM_findKey_51 rfl (lv_at hl 2 rfl) ?_
            refine jv_iald (pc := 52) gX gB hK hP 9 0 rfl rfl (by decide) (by omega) dM_findKey_52 ?_
            refine lv_iload_n (pc := 53) gX gB dM_findKey_53 rfl (lv_at hl 1 rfl) ?_
            refine jv_ri (pc := 54) (wr := []) (wn := fun u : Int => (pM cI cZ cG cR ad th tb fi se lf ct ln tx kl kp fl fo ol ot pl ky3 nu3 yk yn lc fw sd lw od)) (va_runV (rest := []) ⟨gX, gB, hml, hown, hw0⟩ (c_M_weight l dC dI cI cZ cG cR ad th tb fi se lf ct ln tx kl kp fl fo ol ot pl ky3 nu3 yk yn lc fw sd lw od _ (fo i) k (by omega) (by omega) (by omega)) (jcV hw0 kM_weight q916 rfl rfl ⟨Nat.le_trans (Nat.le_of_ble_eq_true rfl) hRf, Nat.le_trans (Nat.le_of_ble_eq_true rfl) hRl⟩) (jv_preV (ci := 5) (q0 := 0) hK hP hD [0, 1, 2, 3, 4, 5, 6, 7, 8, 9, 10, 11, 12, 13, 14, 15, 16, 17, 18] rfl (by decide) rfl rfl) rfl rfl hl.1 rfl (lv_room (Nat.le_of_ble_eq_true rfl)) dM_findKey_54 ⟨Nat.zero_le _, Nat.zero_le _⟩) hP hD hS hA [0, 1, 2, 3, 4, 5, 6, 7, 8, 9, 10, 11, 12, 13, 14, 15, 16, 17, 18] [] [0, 1, 2, 3, 4, 5, 6, 7, 8, 9, 10, 11, 12, 13, 14, 15, 16, 17, 18] rfl rfl (by decide) (by decide) (by decide) (fun _ => rfl) (fun r0 u H locs hw54 hP hD hS => ?_)
            obtain ⟨r_54, hu⟩ : ∃ z, z = u := ⟨_, rfl⟩; subst hu
            obtain ⟨rfl, hw54⟩ := hw54
            refine lv_istore_n (pc := 57) (lv' := [(3, .int (iv r_54)), (0, .ref (ad 0)), (1, .int (iv k)), (2, .int (iv i))]) gX gB dM_findKey_57 rfl hl (by decide) rfl (fun ls hl => ?_)
            refine lv_iload_n (pc := 58) gX gB dM_findKey_58 rfl (lv_at hl 0 rfl) ?_
            refine jv_if_le (pc := 59) (tgt := 82) gX gB dM_findKey_59 (by decide) (by omega) (fun h3 => ?_) (fun h3 => ?_)
            · skip
              refine jv_iinc (pc := 82) (k := 3) (x := i) (n := 1) (lv' := [(2, .int (iv (i + 1))), (3, .int (iv r_54)), (0, .ref (ad 0)), (1, .int (iv k))]) gX gB dM_findKey_82 hl rfl (by decide) rfl (fun ls hl => ?_)
              refine lv_goto (pc := 85) (tgt := 38) gX gB dM_findKey_85 (by decide) ?_
              exact ih38 (i + 1) ky3 nu3 _ _ _ (by omega) (by omega) (by first | (have hs1 : kw (wtM tb k) (sg fo 0 (i + 1).toNat) = kw (wtM tb k) (sg fo 0 i.toNat) := (by rw [hsn, if_pos (by omega), List.append_nil]); rw [hs1]; exact he3) | (have hs2 : kw (wtM tb k) (sg fo 0 (i + 1).toNat) = kw (wtM tb k) (sg fo 0 i.toNat) ++ [r_54] := (by rw [hsn, if_neg (by omega), ← hw54.1]); rw [hs2, ← List.append_assoc, List.reverse_append, rsg_put (by omega), he3]; rfl)) (by omega) (lv_sub hl [2, 3, 0] rfl) hP hD hS
            refine lv_aload_n (pc := 62) gX gB dM_findKey_62 rfl (lv_at hl 1 rfl) ?_
            refine va_get (pc := 63) (D := (dC, dI)) (ci := 5) (v := .ref (ad 16)) (C := RM) (T := TM) (N := 24) gX gB hw0 inM hown hK hP 0 rfl rfl 16 (by decide) (hw0 _ q667) (fun _ h9 => h9) rfl dM_findKey_63 ?_
            refine lv_aload_n (pc := 66) gX gB dM_findKey_66 rfl (lv_at hl 1 rfl) ?_
            refine va_get (pc := 67) (D := (dC, dI)) (ci := 5) (v := .int (iv ky3)) (C := RM) (T := TM) (N := 24) gX gB hw0 inM hown hK hP 0 rfl rfl 15 (by decide) (hw0 _ q666) (fun _ h9 => h9) rfl dM_findKey_67 ?_
            refine lv_iload_n (pc := 70) gX gB dM_findKey_70 rfl (lv_at hl 0 rfl) ?_
            refine jv_iast (pc := 71) (ws' := (pM cI cZ cG cR ad th tb fi se lf ct ln tx kl kp fl fo ol ot pl ky3 (uI nu3 ky3 r_54) yk yn lc fw sd lw od)) gX gB hK hP hD hS 12 0 rfl rfl (by decide) (by omega) dM_findKey_71 rfl (fun H locs hP hD hS => ?_)
            refine lv_aload_n (pc := 72) gX gB dM_findKey_72 rfl (lv_at hl 1 rfl) ?_
            refine lv_dup (pc := 73) gX gB dM_findKey_73 rfl ?_
            refine va_get (pc := 74) (D := (dC, dI)) (ci := 5) (v := .int (iv ky3)) (C := RM) (T := TM) (N := 24) gX gB hw0 inM hown hK hP 0 rfl rfl 15 (by decide) (hw0 _ q666) (fun _ h9 => h9) rfl dM_findKey_74 ?_
            refine lv_iconst (pc := 77) (v := iv 1) gX gB dM_findKey_77 rfl ?_
            refine jv_iadd (pc := 78) (x := ky3) (y := 1) gX gB dM_findKey_78 ?_
            refine jv_put (pc := 79) (D := (dC, dI)) (ci := 5) (v := .int (iv (ky3 + 1))) (ty := .int) (C := RM) (T := TM) (N := 24) (ws' := (pM cI cZ cG cR ad th tb fi se lf ct ln tx kl kp fl fo ol ot pl (ky3 + 1) (uI nu3 ky3 r_54) yk yn lc fw sd lw od)) gX gB hw0 inM tyM tyM_ok nmM hown hK hP hD hS 0 rfl rfl 15 (by decide) (hw0 _ q666) (fun _ h9 => h9) rfl (by decide +kernel) rfl rfl (Nat.le_of_ble_eq_true rfl) dM_findKey_79 rfl (fun H locs hP hD hS => ?_)
            refine jv_iinc (pc := 82) (k := 3) (x := i) (n := 1) (lv' := [(2, .int (iv (i + 1))), (3, .int (iv r_54)), (0, .ref (ad 0)), (1, .int (iv k))]) gX gB dM_findKey_82 hl rfl (by decide) rfl (fun ls hl => ?_)
            refine lv_goto (pc := 85) (tgt := 38) gX gB dM_findKey_85 (by decide) ?_
            exact ih38 (i + 1) (ky3 + 1) (uI nu3 ky3 r_54) _ _ _ (by omega) (by omega) (by first | (have hs1 : kw (wtM tb k) (sg fo 0 (i + 1).toNat) = kw (wtM tb k) (sg fo 0 i.toNat) := (by rw [hsn, if_pos (by omega), List.append_nil]); rw [hs1]; exact he3) | (have hs2 : kw (wtM tb k) (sg fo 0 (i + 1).toNat) = kw (wtM tb k) (sg fo 0 i.toNat) ++ [r_54] := (by rw [hsn, if_neg (by omega), ← hw54.1]); rw [hs2, ← List.append_assoc, List.reverse_append, rsg_put (by omega), he3]; rfl)) (by omega) (lv_sub hl [2, 3, 0] rfl) hP hD hS
        exact cut38 (((fl - 0 : Int).toNat) + 1) 0 ky2 nu2 _ _ _ (by omega) (by omega) (by rw [he2]; show _ = (_ ++ kw _ []).reverse; show _ = (_ ++ []).reverse; rw [List.append_nil]) (Nat.lt_succ_self _) (lv_sub hl [1, 2, 0] rfl) hP hD hS
      refine lv_iload_n (pc := 12) gX gB dM_findKey_12 rfl (lv_at hl 1 rfl) ?_
      refine jv_if_le (pc := 13) (tgt := 36) gX gB dM_findKey_13 (by decide) (by omega) (fun h4 => ?_) (fun h4 => ?_)
      · skip
        exact cut36 ky1 nu1 _ _ _ (by omega) (by rw [he1, if_pos (by omega), List.append_nil]) hl hP hD hS
      refine lv_aload_n (pc := 16) gX gB dM_findKey_16 rfl (lv_at hl 0 rfl) ?_
      refine va_get (pc := 17) (D := (dC, dI)) (ci := 5) (v := .ref (ad 16)) (C := RM) (T := TM) (N := 24) gX gB hw0 inM hown hK hP 0 rfl rfl 16 (by decide) (hw0 _ q667) (fun _ h9 => h9) rfl dM_findKey_17 ?_
      refine lv_aload_n (pc := 20) gX gB dM_findKey_20 rfl (lv_at hl 0 rfl) ?_
      refine va_get (pc := 21) (D := (dC, dI)) (ci := 5) (v := .int (iv ky1)) (C := RM) (T := TM) (N := 24) gX gB hw0 inM hown hK hP 0 rfl rfl 15 (by decide) (hw0 _ q666) (fun _ h9 => h9) rfl dM_findKey_21 ?_
      refine lv_iconst (pc := 24) (v := iv 0) gX gB dM_findKey_24 rfl ?_
      refine jv_iast (pc := 25) (ws' := (pM cI cZ cG cR ad th tb fi se lf ct ln tx kl kp fl fo ol ot pl ky1 (uI nu1 ky1 0) yk yn lc fw sd lw od)) gX gB hK hP hD hS 12 0 rfl rfl (by decide) (by omega) dM_findKey_25 rfl (fun H locs hP hD hS => ?_)
      refine lv_aload_n (pc := 26) gX gB dM_findKey_26 rfl (lv_at hl 0 rfl) ?_
      refine lv_dup (pc := 27) gX gB dM_findKey_27 rfl ?_
      refine va_get (pc := 28) (D := (dC, dI)) (ci := 5) (v := .int (iv ky1)) (C := RM) (T := TM) (N := 24) gX gB hw0 inM hown hK hP 0 rfl rfl 15 (by decide) (hw0 _ q666) (fun _ h9 => h9) rfl dM_findKey_28 ?_
      refine lv_iconst (pc := 31) (v := iv 1) gX gB dM_findKey_31 rfl ?_
      refine jv_iadd (pc := 32) (x := ky1) (y := 1) gX gB dM_findKey_32 ?_
      refine jv_put (pc := 33) (D := (dC, dI)) (ci := 5) (v := .int (iv (ky1 + 1))) (ty := .int) (C := RM) (T := TM) (N := 24) (ws' := (pM cI cZ cG cR ad th tb fi se lf ct ln tx kl kp fl fo ol ot pl (ky1 + 1) (uI nu1 ky1 0) yk yn lc fw sd lw od)) gX gB hw0 inM tyM tyM_ok nmM hown hK hP hD hS 0 rfl rfl 15 (by decide) (hw0 _ q666) (fun _ h9 => h9) rfl (by decide +kernel) rfl rfl (Nat.le_of_ble_eq_true rfl) dM_findKey_33 rfl (fun H locs hP hD hS => ?_)
      exact cut36 (ky1 + 1) (uI nu1 ky1 0) _ _ _ (by omega) (by rw [rsg_put (by omega), he1, if_neg (by omega), List.reverse_append]; rfl) hl hP hD hS
  exact cut7 (((3 - 0 : Int).toNat) + 1) 0 0 nu _ _ _ (by omega) (by omega) (by rfl) (Nat.lt_succ_self _) (lv_sub hl [1, 0] rfl) hP hD hS
set_option maxRecDepth 100000 in
set_option maxHeartbeats 1000000 in
theorem c_M_key (l : Launch) (dC : Nat → ClassId) (dI : Nat → Nat → Nat) (cI : ClassId) (cZ : ClassId) (cG : ClassId) (cR : ClassId) (ad : Nat → Nat) (th : Int) (tb : Int → Int) (fi : Int → Int) (se : Int → Int) (lf : Int → Int) (ct : Int → Int) (ln : Int) (tx : Int → Int) (kl : Int → Int) (kp : Int → Int) (fl : Int) (fo : Int → Int) (ol : Int) (ot : Int → Int) (pl : Int → Int) (ky : Int) (nu : Int → Int) (yk : Int) (yn : Int → Int) (lc : Int → Int) (fw : Int → Int) (sd : Int → Int) (lw : Int → Int) (od : Int → Int) (sz : Nat) (hT : TBK tb) (hv : vpt fi se) (hs : SHT fi se) (hl9 : 0 ≤ ln ∧ ln ≤ 40) (htx : ∀ j, 0 ≤ j → j < ln → 0 ≤ tx j ∧ tx j < 75) : Met l yM_key wsM_key ({ frames := 4, cells := 0, slots := 0, locals := 88 }) (va_Pc [.ref (ad 0)] (jPre (dC, dI) (jT cI cZ cG cR) (pM cI cZ cG cR ad th tb fi se lf ct ln tx kl kp fl fo ol ot pl ky nu yk yn lc fw sd lw od) sz)) (va_Qi (fun (r0 : Int32) (u : Int × Int × Int × (Int → Int) × (Int → Int) × Int × (Int → Int)) => r0 = iv u.1 ∧ (u.2.1 = 0 ∧ u.1 = (KYL (wtM tb) (rkM tb) fi se tx ln).length)) (fun u => jEnd (dC, dI) (jT cI cZ cG cR) (va_A (pM cI cZ cG cR ad th tb fi se lf ct ln tx kl kp fl fo ol ot pl ky nu yk yn lc fw sd lw od) sz) (pM cI cZ cG cR ad u.2.1 tb fi se lf ct ln tx kl kp u.2.2.1 u.2.2.2.1 ol ot u.2.2.2.2.1 u.2.2.2.2.2.1 u.2.2.2.2.2.2 yk yn lc fw sd lw od)) (va_A (pM cI cZ cG cR ad th tb fi se lf ct ln tx kl kp fl fo ol ot pl ky nu yk yn lc fw sd lw od) sz)) 0 0 (va_A (pM cI cZ cG cR ad th tb fi se lf ct ln tx kl kp fl fo ol ot pl ky nu yk yn lc fw sd lw od) sz) := by
  refine jv_mi (cc := cM_key) (maxL := 1) (by decide) rfl (Nat.le_of_ble_eq_true rfl) ?_
  intro p0 e0 s0 m0 a0 b0 t0 c0 R0 Q0 A0 ls gX gB hts hown hml hRf hRl hA hK hret hl hP hD hS
  have hown : s0.vm.findClass "TextPipelineModel" = some m0.cls := hown
  have hw0 : ∀ w ∈ WS0, w.before a0 s0 = true := fun w h => hts w (List.mem_cons_of_mem _ h)
  have hl : lv_has ls 1 [(0, .ref (ad 0))] := hl
  have hRf : 4 ≤ R0.frames := hRf
  have hRl : 88 ≤ R0.locals := hRl
  refine lv_aload_n (pc := 0) gX gB dM_key_0 rfl (lv_at hl 0 rfl) ?_
  refine lv_iconst (pc := 1) (v := iv 0) gX gB dM_key_1 rfl ?_
  refine jv_put (pc := 2) (D := (dC, dI)) (ci := 5) (v := .int (iv 0)) (ty := .int) (C := RM) (T := TM) (N := 24) (ws' := (pM cI cZ cG cR ad 0 tb fi se lf ct ln tx kl kp fl fo ol ot pl ky nu yk yn lc fw sd lw od)) gX gB hw0 inM tyM tyM_ok nmM hown hK hP hD hS 0 rfl rfl 0 (by decide) (hw0 _ q651) (fun _ h9 => h9) rfl (by decide +kernel) rfl rfl (Nat.le_of_ble_eq_true rfl) dM_key_2 rfl (fun H locs hP hD hS => ?_)
  refine lv_aload_n (pc := 5) gX gB dM_key_5 rfl (lv_at hl 0 rfl) ?_
  refine jv_rv (pc := 6) (wr := []) (wn := fun u : Int × (Int → Int) × (Int → Int) => (pM cI cZ cG cR ad 0 tb fi se lf ct ln tx kl kp u.1 u.2.1 ol ot u.2.2 ky nu yk yn lc fw sd lw od)) (va_runV (rest := []) ⟨gX, gB, hml, hown, hw0⟩ (c_M_partText l dC dI cI cZ cG cR ad 0 tb fi se lf ct ln tx kl kp fl fo ol ot pl ky nu yk yn lc fw sd lw od _  (by omega) (by omega) (by omega) (by omega) (by omega)) (jcV hw0 kM_partText q760 rfl rfl ⟨Nat.le_trans (Nat.le_of_ble_eq_true rfl) hRf, Nat.le_trans (Nat.le_of_ble_eq_true rfl) hRl⟩) (jv_preV (ci := 5) (q0 := 0) hK hP hD [0, 1, 2, 3, 4, 5, 6, 7, 8, 9, 10, 11, 12, 13, 14, 15, 16, 17, 18] rfl (by decide) rfl rfl) rfl rfl hl.1 rfl (lv_room (Nat.le_of_ble_eq_true rfl)) dM_key_6 ⟨Nat.zero_le _, Nat.zero_le _⟩) hP hD hS hA [0, 1, 2, 3, 4, 5, 6, 7, 8, 9, 10, 11, 12, 13, 14, 15, 16, 17, 18] [] [0, 1, 2, 3, 4, 5, 6, 7, 8, 9, 10, 11, 12, 13, 14, 15, 16, 17, 18] rfl rfl (by decide) (by decide) (by decide) (fun _ => rfl) (fun u H locs hw6 hP hD hS => ?_)
  obtain ⟨fl_6, fo_6, pl_6⟩ := u
  dsimp only at hw6 hP hD
  have hr6 : ∀ j, 0 ≤ j → j < fl_6 → 0 ≤ fo_6 j ∧ fo_6 j < 75 := fun j a b => by have h9 := rsg_in (g := fo_6) (n := fl_6.toNat) (j := j) a (by omega); rw [hw6.2.2] at h9; have := FM_mem hv htx _ h9; omega
  refine lv_aload_n (pc := 9) gX gB dM_key_9 rfl (lv_at hl 0 rfl) ?_
  refine jv_rv (pc := 10) (wr := []) (wn := fun u : Int × (Int → Int) => (pM cI cZ cG cR ad 0 tb fi se lf ct ln tx kl kp fl_6 fo_6 ol ot pl_6 u.1 u.2 yk yn lc fw sd lw od)) (va_runV (rest := []) ⟨gX, gB, hml, hown, hw0⟩ (c_M_findKey l dC dI cI cZ cG cR ad 0 tb fi se lf ct ln tx kl kp fl_6 fo_6 ol ot pl_6 ky nu yk yn lc fw sd lw od _  (by omega) (by omega) (by exact hr6)) (jcV hw0 kM_findKey q912 rfl rfl ⟨Nat.le_trans (Nat.le_of_ble_eq_true rfl) hRf, Nat.le_trans (Nat.le_of_ble_eq_true rfl) hRl⟩) (jv_preV (ci := 5) (q0 := 0) hK hP hD [0, 1, 2, 3, 4, 5, 6, 7, 8, 9, 10, 11, 12, 13, 14, 15, 16, 17, 18] rfl (by decide) rfl rfl) rfl rfl hl.1 rfl (lv_room (Nat.le_of_ble_eq_true rfl)) dM_key_10 ⟨Nat.zero_le _, Nat.zero_le _⟩) hP hD hS hA [0, 1, 2, 3, 4, 5, 6, 7, 8, 9, 10, 11, 12, 13, 14, 15, 16, 17, 18] [] [0, 1, 2, 3, 4, 5, 6, 7, 8, 9, 10, 11, 12, 13, 14, 15, 16, 17, 18] rfl rfl (by decide) (by decide) (by decide) (fun _ => rfl) (fun u H locs hw10 hP hD hS => ?_)
  obtain ⟨ky_10, nu_10⟩ := u
  dsimp only at hw10 hP hD
  have hk : rsg nu_10 ky_10.toNat = (KYL (wtM tb) (rkM tb) fi se tx ln).reverse := by rw [hw10.2.2, sg_rsg, hw6.2.2]; rfl
  have hk_l : (KYL (wtM tb) (rkM tb) fi se tx ln).length = ky_10.toNat := by have q := congrArg List.length hk; rw [rsg_len, List.length_reverse] at q; exact q.symm
  refine lv_aload_n (pc := 13) gX gB dM_key_13 rfl (lv_at hl 0 rfl) ?_
  refine va_get (pc := 14) (D := (dC, dI)) (ci := 5) (v := .int (iv ky_10)) (C := RM) (T := TM) (N := 24) gX gB hw0 inM hown hK hP 0 rfl rfl 15 (by decide) (hw0 _ q666) (fun _ h9 => h9) rfl dM_key_14 ?_
  exact hret _ (ky_10, 0, fl_6, fo_6, pl_6, ky_10, nu_10) dM_key_17 ⟨rfl, by first | (dsimp only; exact ⟨rfl, by rw [hk_l]; omega⟩) | (exact ⟨rfl, by rw [hk_l]; omega⟩)⟩ hP hD hS
set_option maxRecDepth 100000 in
set_option maxHeartbeats 1000000 in
theorem c_M_keyAt (l : Launch) (dC : Nat → ClassId) (dI : Nat → Nat → Nat) (cI : ClassId) (cZ : ClassId) (cG : ClassId) (cR : ClassId) (ad : Nat → Nat) (th : Int) (tb : Int → Int) (fi : Int → Int) (se : Int → Int) (lf : Int → Int) (ct : Int → Int) (ln : Int) (tx : Int → Int) (kl : Int → Int) (kp : Int → Int) (fl : Int) (fo : Int → Int) (ol : Int) (ot : Int → Int) (pl : Int → Int) (ky : Int) (nu : Int → Int) (yk : Int) (yn : Int → Int) (lc : Int → Int) (fw : Int → Int) (sd : Int → Int) (lw : Int → Int) (od : Int → Int) (sz : Nat) (i : Int) (hT : TBK tb) (hv : vpt fi se) (hs : SHT fi se) (hi : -2147483648 ≤ i ∧ i < 2147483648) (hl9 : 0 ≤ ln ∧ ln ≤ 40) (htx : ∀ j, 0 ≤ j → j < ln → 0 ≤ tx j ∧ tx j < 75) : Met l yM_keyAt wsM_keyAt ({ frames := 4, cells := 0, slots := 0, locals := 88 }) (va_Pc [.ref (ad 0), .int (iv i)] (jPre (dC, dI) (jT cI cZ cG cR) (pM cI cZ cG cR ad th tb fi se lf ct ln tx kl kp fl fo ol ot pl ky nu yk yn lc fw sd lw od) sz)) (va_Qi (fun (r0 : Int32) (u : Int × Int × Int × (Int → Int) × (Int → Int) × Int × (Int → Int)) => r0 = iv u.1 ∧ (((i < 0 ∨ (KYL (wtM tb) (rkM tb) fi se tx ln).length ≤ i) ∧ u.2.1 = 1) ∨ (0 ≤ i ∧ i < (KYL (wtM tb) (rkM tb) fi se tx ln).length ∧ u.2.1 = 0 ∧ (KYL (wtM tb) (rkM tb) fi se tx ln)[i.toNat]? = some u.1))) (fun u => jEnd (dC, dI) (jT cI cZ cG cR) (va_A (pM cI cZ cG cR ad th tb fi se lf ct ln tx kl kp fl fo ol ot pl ky nu yk yn lc fw sd lw od) sz) (pM cI cZ cG cR ad u.2.1 tb fi se lf ct ln tx kl kp u.2.2.1 u.2.2.2.1 ol ot u.2.2.2.2.1 u.2.2.2.2.2.1 u.2.2.2.2.2.2 yk yn lc fw sd lw od)) (va_A (pM cI cZ cG cR ad th tb fi se lf ct ln tx kl kp fl fo ol ot pl ky nu yk yn lc fw sd lw od) sz)) 0 0 (va_A (pM cI cZ cG cR ad th tb fi se lf ct ln tx kl kp fl fo ol ot pl ky nu yk yn lc fw sd lw od) sz) := by
  refine jv_mi (cc := cM_keyAt) (maxL := 2) (by decide) rfl (Nat.le_of_ble_eq_true rfl) ?_
  intro p0 e0 s0 m0 a0 b0 t0 c0 R0 Q0 A0 ls gX gB hts hown hml hRf hRl hA hK hret hl hP hD hS
  have hown : s0.vm.findClass "TextPipelineModel" = some m0.cls := hown
  have hw0 : ∀ w ∈ WS0, w.before a0 s0 = true := fun w h => hts w (List.mem_cons_of_mem _ h)
  have hl : lv_has ls 2 [(0, .ref (ad 0)), (1, .int (iv i))] := hl
  have hRf : 4 ≤ R0.frames := hRf
  have hRl : 88 ≤ R0.locals := hRl
  refine lv_aload_n (pc := 0) gX gB dM_keyAt_0 rfl (lv_at hl 0 rfl) ?_
  refine jv_rv (pc := 1) (wr := []) (wn := fun u : Int × (Int → Int) × (Int → Int) => (pM cI cZ cG cR ad th tb fi se lf ct ln tx kl kp u.1 u.2.1 ol ot u.2.2 ky nu yk yn lc fw sd lw od)) (va_runV (rest := []) ⟨gX, gB, hml, hown, hw0⟩ (c_M_partText l dC dI cI cZ cG cR ad th tb fi se lf ct ln tx kl kp fl fo ol ot pl ky nu yk yn lc fw sd lw od _  (by omega) (by omega) (by omega) (by omega) (by omega)) (jcV hw0 kM_partText q760 rfl rfl ⟨Nat.le_trans (Nat.le_of_ble_eq_true rfl) hRf, Nat.le_trans (Nat.le_of_ble_eq_true rfl) hRl⟩) (jv_preV (ci := 5) (q0 := 0) hK hP hD [0, 1, 2, 3, 4, 5, 6, 7, 8, 9, 10, 11, 12, 13, 14, 15, 16, 17, 18] rfl (by decide) rfl rfl) rfl rfl hl.1 rfl (lv_room (Nat.le_of_ble_eq_true rfl)) dM_keyAt_1 ⟨Nat.zero_le _, Nat.zero_le _⟩) hP hD hS hA [0, 1, 2, 3, 4, 5, 6, 7, 8, 9, 10, 11, 12, 13, 14, 15, 16, 17, 18] [] [0, 1, 2, 3, 4, 5, 6, 7, 8, 9, 10, 11, 12, 13, 14, 15, 16, 17, 18] rfl rfl (by decide) (by decide) (by decide) (fun _ => rfl) (fun u H locs hw1 hP hD hS => ?_)
  obtain ⟨fl_1, fo_1, pl_1⟩ := u
  dsimp only at hw1 hP hD
  have hr1 : ∀ j, 0 ≤ j → j < fl_1 → 0 ≤ fo_1 j ∧ fo_1 j < 75 := fun j a b => by have h9 := rsg_in (g := fo_1) (n := fl_1.toNat) (j := j) a (by omega); rw [hw1.2.2] at h9; have := FM_mem hv htx _ h9; omega
  refine lv_aload_n (pc := 4) gX gB dM_keyAt_4 rfl (lv_at hl 0 rfl) ?_
  refine jv_rv (pc := 5) (wr := []) (wn := fun u : Int × (Int → Int) => (pM cI cZ cG cR ad th tb fi se lf ct ln tx kl kp fl_1 fo_1 ol ot pl_1 u.1 u.2 yk yn lc fw sd lw od)) (va_runV (rest := []) ⟨gX, gB, hml, hown, hw0⟩ (c_M_findKey l dC dI cI cZ cG cR ad th tb fi se lf ct ln tx kl kp fl_1 fo_1 ol ot pl_1 ky nu yk yn lc fw sd lw od _  (by omega) (by omega) (by exact hr1)) (jcV hw0 kM_findKey q912 rfl rfl ⟨Nat.le_trans (Nat.le_of_ble_eq_true rfl) hRf, Nat.le_trans (Nat.le_of_ble_eq_true rfl) hRl⟩) (jv_preV (ci := 5) (q0 := 0) hK hP hD [0, 1, 2, 3, 4, 5, 6, 7, 8, 9, 10, 11, 12, 13, 14, 15, 16, 17, 18] rfl (by decide) rfl rfl) rfl rfl hl.1 rfl (lv_room (Nat.le_of_ble_eq_true rfl)) dM_keyAt_5 ⟨Nat.zero_le _, Nat.zero_le _⟩) hP hD hS hA [0, 1, 2, 3, 4, 5, 6, 7, 8, 9, 10, 11, 12, 13, 14, 15, 16, 17, 18] [] [0, 1, 2, 3, 4, 5, 6, 7, 8, 9, 10, 11, 12, 13, 14, 15, 16, 17, 18] rfl rfl (by decide) (by decide) (by decide) (fun _ => rfl) (fun u H locs hw5 hP hD hS => ?_)
  obtain ⟨ky_5, nu_5⟩ := u
  dsimp only at hw5 hP hD
  have hk : rsg nu_5 ky_5.toNat = (KYL (wtM tb) (rkM tb) fi se tx ln).reverse := by rw [hw5.2.2, sg_rsg, hw1.2.2]; rfl
  have hk_l : (KYL (wtM tb) (rkM tb) fi se tx ln).length = ky_5.toNat := by have q := congrArg List.length hk; rw [rsg_len, List.length_reverse] at q; exact q.symm
  refine lv_aload_n (pc := 8) gX gB dM_keyAt_8 rfl (lv_at hl 0 rfl) ?_
  refine lv_aload_n (pc := 9) gX gB dM_keyAt_9 rfl (lv_at hl 0 rfl) ?_
  refine lv_iload_n (pc := 10) gX gB dM_keyAt_10 rfl (lv_at hl 1 rfl) ?_
  refine lv_aload_n (pc := 11) gX gB dM_keyAt_11 rfl (lv_at hl 0 rfl) ?_
  refine va_get (pc := 12) (D := (dC, dI)) (ci := 5) (v := .int (iv ky_5)) (C := RM) (T := TM) (N := 24) gX gB hw0 inM hown hK hP 0 rfl rfl 15 (by decide) (hw0 _ q666) (fun _ h9 => h9) rfl dM_keyAt_12 ?_
  refine jv_ri (pc := 15) (wr := []) (wn := fun u : Int => (pM cI cZ cG cR ad th tb fi se lf ct ln tx kl kp fl_1 fo_1 ol ot pl_1 ky_5 nu_5 yk yn lc fw sd lw od)) (va_runV (rest := [.ref (ad 0)]) ⟨gX, gB, hml, hown, hw0⟩ (c_M_noPlace l dC dI cI cZ cG cR ad th tb fi se lf ct ln tx kl kp fl_1 fo_1 ol ot pl_1 ky_5 nu_5 yk yn lc fw sd lw od _ i ky_5 (by omega) (by omega)) (jcV hw0 kM_noPlace q752 rfl rfl ⟨Nat.le_trans (Nat.le_of_ble_eq_true rfl) hRf, Nat.le_trans (Nat.le_of_ble_eq_true rfl) hRl⟩) (jv_preV (ci := 5) (q0 := 0) hK hP hD [0, 1, 2, 3, 4, 5, 6, 7, 8, 9, 10, 11, 12, 13, 14, 15, 16, 17, 18] rfl (by decide) rfl rfl) rfl rfl hl.1 rfl (lv_room (Nat.le_of_ble_eq_true rfl)) dM_keyAt_15 ⟨Nat.zero_le _, Nat.zero_le _⟩) hP hD hS hA [0, 1, 2, 3, 4, 5, 6, 7, 8, 9, 10, 11, 12, 13, 14, 15, 16, 17, 18] [] [0, 1, 2, 3, 4, 5, 6, 7, 8, 9, 10, 11, 12, 13, 14, 15, 16, 17, 18] rfl rfl (by decide) (by decide) (by decide) (fun _ => rfl) (fun r0 u H locs hw15 hP hD hS => ?_)
  obtain ⟨r_15, hu⟩ : ∃ z, z = u := ⟨_, rfl⟩; subst hu
  obtain ⟨rfl, hw15⟩ := hw15
  refine jv_if_eq (pc := 18) (tgt := 25) gX gB dM_keyAt_18 (by decide) (by omega) (fun h1 => ?_) (fun h1 => ?_)
  · skip
    refine lv_iconst (pc := 25) (v := iv 0) gX gB dM_keyAt_25 rfl ?_
    refine jv_put (pc := 26) (D := (dC, dI)) (ci := 5) (v := .int (iv 0)) (ty := .int) (C := RM) (T := TM) (N := 24) (ws' := (pM cI cZ cG cR ad 0 tb fi se lf ct ln tx kl kp fl_1 fo_1 ol ot pl_1 ky_5 nu_5 yk yn lc fw sd lw od)) gX gB hw0 inM tyM tyM_ok nmM hown hK hP hD hS 0 rfl rfl 0 (by decide) (hw0 _ q651) (fun _ h9 => h9) rfl (by decide +kernel) rfl rfl (Nat.le_of_ble_eq_true rfl) dM_keyAt_26 rfl (fun H locs hP hD hS => ?_)
    refine lv_aload_n (pc := 29) gX gB dM_keyAt_29 rfl (lv_at hl 0 rfl) ?_
    refine va_get (pc := 30) (D := (dC, dI)) (ci := 5) (v := .int (iv 0)) (C := RM) (T := TM) (N := 24) gX gB hw0 inM hown hK hP 0 rfl rfl 0 (by decide) (hw0 _ q651) (fun _ h9 => h9) rfl dM_keyAt_30 ?_
    refine jv_if_ne (pc := 33) (tgt := 45) gX gB dM_keyAt_33 (by decide) (by decide) (fun h2 => ?_) (fun h2 => ?_)
    · exact absurd h2 (by decide)
    refine lv_aload_n (pc := 36) gX gB dM_keyAt_36 rfl (lv_at hl 0 rfl) ?_
    refine va_get (pc := 37) (D := (dC, dI)) (ci := 5) (v := .ref (ad 16)) (C := RM) (T := TM) (N := 24) gX gB hw0 inM hown hK hP 0 rfl rfl 16 (by decide) (hw0 _ q667) (fun _ h9 => h9) rfl dM_keyAt_37 ?_
    refine lv_iload_n (pc := 40) gX gB dM_keyAt_40 rfl (lv_at hl 1 rfl) ?_
    refine jv_iald (pc := 41) gX gB hK hP 12 0 rfl rfl (by decide) (by omega) dM_keyAt_41 ?_
    refine lv_goto (pc := 42) (tgt := 46) gX gB dM_keyAt_42 (by decide) ?_
    exact hret _ (nu_5 i, 0, fl_1, fo_1, pl_1, ky_5, nu_5) dM_keyAt_46 ⟨rfl, by first | (dsimp only; first | exact Or.inl ⟨by rw [hk_l]; omega, rfl⟩ | (refine Or.inr ⟨by omega, by rw [hk_l]; omega, rfl, ?_⟩; have q := sg_rsg nu_5 ky_5.toNat; rw [hk, List.reverse_reverse] at q; rw [← q, sg_get _ _ _ (by omega), show (0 : Int) + (i.toNat : Int) = i by omega])) | (first | exact Or.inl ⟨by rw [hk_l]; omega, rfl⟩ | (refine Or.inr ⟨by omega, by rw [hk_l]; omega, rfl, ?_⟩; have q := sg_rsg nu_5 ky_5.toNat; rw [hk, List.reverse_reverse] at q; rw [← q, sg_get _ _ _ (by omega), show (0 : Int) + (i.toNat : Int) = i by omega]))⟩ hP hD hS
  refine lv_iconst (pc := 21) (v := iv 1) gX gB dM_keyAt_21 rfl ?_
  refine lv_goto (pc := 22) (tgt := 26) gX gB dM_keyAt_22 (by decide) ?_
  refine jv_put (pc := 26) (D := (dC, dI)) (ci := 5) (v := .int (iv 1)) (ty := .int) (C := RM) (T := TM) (N := 24) (ws' := (pM cI cZ cG cR ad 1 tb fi se lf ct ln tx kl kp fl_1 fo_1 ol ot pl_1 ky_5 nu_5 yk yn lc fw sd lw od)) gX gB hw0 inM tyM tyM_ok nmM hown hK hP hD hS 0 rfl rfl 0 (by decide) (hw0 _ q651) (fun _ h9 => h9) rfl (by decide +kernel) rfl rfl (Nat.le_of_ble_eq_true rfl) dM_keyAt_26 rfl (fun H locs hP hD hS => ?_)
  refine lv_aload_n (pc := 29) gX gB dM_keyAt_29 rfl (lv_at hl 0 rfl) ?_
  refine va_get (pc := 30) (D := (dC, dI)) (ci := 5) (v := .int (iv 1)) (C := RM) (T := TM) (N := 24) gX gB hw0 inM hown hK hP 0 rfl rfl 0 (by decide) (hw0 _ q651) (fun _ h9 => h9) rfl dM_keyAt_30 ?_
  refine jv_if_ne (pc := 33) (tgt := 45) gX gB dM_keyAt_33 (by decide) (by decide) (fun h3 => ?_) (fun h3 => ?_)
  rotate_left
  · exact absurd h3 (by decide)
  refine lv_iconst (pc := 45) (v := iv 0) gX gB dM_keyAt_45 rfl ?_
  exact hret _ (0, 1, fl_1, fo_1, pl_1, ky_5, nu_5) dM_keyAt_46 ⟨rfl, by first | (dsimp only; first | exact Or.inl ⟨by rw [hk_l]; omega, rfl⟩ | (refine Or.inr ⟨by omega, by rw [hk_l]; omega, rfl, ?_⟩; have q := sg_rsg nu_5 ky_5.toNat; rw [hk, List.reverse_reverse] at q; rw [← q, sg_get _ _ _ (by omega), show (0 : Int) + (i.toNat : Int) = i by omega])) | (first | exact Or.inl ⟨by rw [hk_l]; omega, rfl⟩ | (refine Or.inr ⟨by omega, by rw [hk_l]; omega, rfl, ?_⟩; have q := sg_rsg nu_5 ky_5.toNat; rw [hk, List.reverse_reverse] at q; rw [← q, sg_get _ _ _ (by omega), show (0 : Int) + (i.toNat : Int) = i by omega]))⟩ hP hD hS
set_option maxRecDepth 100000 in
set_option maxHeartbeats 1000000 in
theorem c_M_keep (l : Launch) (dC : Nat → ClassId) (dI : Nat → Nat → Nat) (cI : ClassId) (cZ : ClassId) (cG : ClassId) (cR : ClassId) (ad : Nat → Nat) (th : Int) (tb : Int → Int) (fi : Int → Int) (se : Int → Int) (lf : Int → Int) (ct : Int → Int) (ln : Int) (tx : Int → Int) (kl : Int → Int) (kp : Int → Int) (fl : Int) (fo : Int → Int) (ol : Int) (ot : Int → Int) (pl : Int → Int) (ky : Int) (nu : Int → Int) (yk : Int) (yn : Int → Int) (lc : Int → Int) (fw : Int → Int) (sd : Int → Int) (lw : Int → Int) (od : Int → Int) (sz : Nat) (k : Int) (hk : -2147483648 ≤ k ∧ k < 2147483648) (hl9 : 0 ≤ ln ∧ ln ≤ 40) : Met l yM_keep wsM_keep ({ frames := 1, cells := 0, slots := 0, locals := 21 }) (va_Pc [.ref (ad 0), .int (iv k)] (jPre (dC, dI) (jT cI cZ cG cR) (pM cI cZ cG cR ad th tb fi se lf ct ln tx kl kp fl fo ol ot pl ky nu yk yn lc fw sd lw od) sz)) (va_Qv (fun u : Int × (Int → Int) × (Int → Int) => ((k < 0 ∨ 3 < k) ∧ u.1 = 1 ∧ u.2.1 = kl ∧ u.2.2 = kp) ∨ (0 ≤ k ∧ k ≤ 3 ∧ u.1 = 0 ∧ u.2.1 = uI kl k ln ∧ (∀ j, 0 ≤ j → j < ln → u.2.2 (40 * k + j) = tx j) ∧ (∀ q, (q < 40 * k ∨ 40 * k + ln ≤ q) → u.2.2 q = kp q))) (fun u => jEnd (dC, dI) (jT cI cZ cG cR) (va_A (pM cI cZ cG cR ad th tb fi se lf ct ln tx kl kp fl fo ol ot pl ky nu yk yn lc fw sd lw od) sz) (pM cI cZ cG cR ad u.1 tb fi se lf ct ln tx u.2.1 u.2.2 fl fo ol ot pl ky nu yk yn lc fw sd lw od)) (va_A (pM cI cZ cG cR ad th tb fi se lf ct ln tx kl kp fl fo ol ot pl ky nu yk yn lc fw sd lw od) sz)) 0 0 (va_A (pM cI cZ cG cR ad th tb fi se lf ct ln tx kl kp fl fo ol ot pl ky nu yk yn lc fw sd lw od) sz) := by
  refine jv_mv (cc := cM_keep) (maxL := 3) (by decide) rfl (Nat.le_of_ble_eq_true rfl) ?_
  intro p0 e0 s0 m0 a0 b0 t0 c0 R0 Q0 A0 ls gX gB hts hown hml hRf hRl hA hK hret hl hP hD hS
  have hown : s0.vm.findClass "TextPipelineModel" = some m0.cls := hown
  have hw0 : ∀ w ∈ WS0, w.before a0 s0 = true := fun w h => hts w (List.mem_cons_of_mem _ h)
  have hl : lv_has ls 3 [(0, .ref (ad 0)), (1, .int (iv k))] := hl
  have hRf : 1 ≤ R0.frames := hRf
  have hRl : 21 ≤ R0.locals := hRl
  refine lv_aload_n (pc := 0) gX gB dM_keep_0 rfl (lv_at hl 0 rfl) ?_
  refine lv_aload_n (pc := 1) gX gB dM_keep_1 rfl (lv_at hl 0 rfl) ?_
  refine lv_iload_n (pc := 2) gX gB dM_keep_2 rfl (lv_at hl 1 rfl) ?_
  refine jv_ri (pc := 3) (wr := []) (wn := fun u : Int => (pM cI cZ cG cR ad th tb fi se lf ct ln tx kl kp fl fo ol ot pl ky nu yk yn lc fw sd lw od)) (va_runV (rest := [.ref (ad 0)]) ⟨gX, gB, hml, hown, hw0⟩ (c_M_noSlot l dC dI cI cZ cG cR ad th tb fi se lf ct ln tx kl kp fl fo ol ot pl ky nu yk yn lc fw sd lw od _ k (by omega)) (jcV hw0 kM_noSlot q928 rfl rfl ⟨Nat.le_trans (Nat.le_of_ble_eq_true rfl) hRf, Nat.le_trans (Nat.le_of_ble_eq_true rfl) hRl⟩) (jv_preV (ci := 5) (q0 := 0) hK hP hD [0, 1, 2, 3, 4, 5, 6, 7, 8, 9, 10, 11, 12, 13, 14, 15, 16, 17, 18] rfl (by decide) rfl rfl) rfl rfl hl.1 rfl (lv_room (Nat.le_of_ble_eq_true rfl)) dM_keep_3 ⟨Nat.zero_le _, Nat.zero_le _⟩) hP hD hS hA [0, 1, 2, 3, 4, 5, 6, 7, 8, 9, 10, 11, 12, 13, 14, 15, 16, 17, 18] [] [0, 1, 2, 3, 4, 5, 6, 7, 8, 9, 10, 11, 12, 13, 14, 15, 16, 17, 18] rfl rfl (by decide) (by decide) (by decide) (fun _ => rfl) (fun r0 u H locs hw3 hP hD hS => ?_)
  obtain ⟨r_3, hu⟩ : ∃ z, z = u := ⟨_, rfl⟩; subst hu
  obtain ⟨rfl, hw3⟩ := hw3
  refine jv_if_eq (pc := 6) (tgt := 13) gX gB dM_keep_6 (by decide) (by omega) (fun h1 => ?_) (fun h1 => ?_)
  · skip
    refine lv_iconst (pc := 13) (v := iv 0) gX gB dM_keep_13 rfl ?_
    refine jv_put (pc := 14) (D := (dC, dI)) (ci := 5) (v := .int (iv 0)) (ty := .int) (C := RM) (T := TM) (N := 24) (ws' := (pM cI cZ cG cR ad 0 tb fi se lf ct ln tx kl kp fl fo ol ot pl ky nu yk yn lc fw sd lw od)) gX gB hw0 inM tyM tyM_ok nmM hown hK hP hD hS 0 rfl rfl 0 (by decide) (hw0 _ q651) (fun _ h9 => h9) rfl (by decide +kernel) rfl rfl (Nat.le_of_ble_eq_true rfl) dM_keep_14 rfl (fun H locs hP hD hS => ?_)
    refine lv_aload_n (pc := 17) gX gB dM_keep_17 rfl (lv_at hl 0 rfl) ?_
    refine va_get (pc := 18) (D := (dC, dI)) (ci := 5) (v := .int (iv 0)) (C := RM) (T := TM) (N := 24) gX gB hw0 inM hown hK hP 0 rfl rfl 0 (by decide) (hw0 _ q651) (fun _ h9 => h9) rfl dM_keep_18 ?_
    refine jv_if_ne (pc := 21) (tgt := 67) gX gB dM_keep_21 (by decide) (by decide) (fun h2 => ?_) (fun h2 => ?_)
    · exact absurd h2 (by decide)
    refine lv_aload_n (pc := 24) gX gB dM_keep_24 rfl (lv_at hl 0 rfl) ?_
    refine va_get (pc := 25) (D := (dC, dI)) (ci := 5) (v := .ref (ad 8)) (C := RM) (T := TM) (N := 24) gX gB hw0 inM hown hK hP 0 rfl rfl 8 (by decide) (hw0 _ q659) (fun _ h9 => h9) rfl dM_keep_25 ?_
    refine lv_iload_n (pc := 28) gX gB dM_keep_28 rfl (lv_at hl 1 rfl) ?_
    refine lv_aload_n (pc := 29) gX gB dM_keep_29 rfl (lv_at hl 0 rfl) ?_
    refine va_get (pc := 30) (D := (dC, dI)) (ci := 5) (v := .int (iv ln)) (C := RM) (T := TM) (N := 24) gX gB hw0 inM hown hK hP 0 rfl rfl 6 (by decide) (hw0 _ q657) (fun _ h9 => h9) rfl dM_keep_30 ?_
    refine jv_iast (pc := 33) (ws' := (pM cI cZ cG cR ad 0 tb fi se lf ct ln tx (uI kl k ln) kp fl fo ol ot pl ky nu yk yn lc fw sd lw od)) gX gB hK hP hD hS 7 0 rfl rfl (by decide) (by omega) dM_keep_33 rfl (fun H locs hP hD hS => ?_)
    refine lv_iconst (pc := 34) (v := iv 0) gX gB dM_keep_34 rfl ?_
    refine lv_istore_n (pc := 35) (lv' := [(2, .int (iv 0)), (0, .ref (ad 0)), (1, .int (iv k))]) gX gB dM_keep_35 rfl hl (by decide) rfl (fun ls hl => ?_)
    have cut36 : ∀ (n0 : Nat) (i : Int) (kp1 : Int → Int) (ls : Array Slot) (H : Heap) (locs : List Loc), (0 ≤ i ∧ i ≤ ln) → (∀ j, 0 ≤ j → j < i → kp1 (40 * k + j) = tx j) → (∀ q, (q < 40 * k ∨ 40 * k + ln ≤ q) → kp1 q = kp q) → ((ln - i : Int).toNat < n0) → lv_has ls 3 [(0, .ref (ad 0)), (1, .int (iv k)), (2, .int (iv i))] → va_P (dC, dI) vwCl (pM cI cZ cG cR ad 0 tb fi se lf ct ln tx (uI kl k ln) kp1 fl fo ol ot pl ky nu yk yn lc fw sd lw od) H → va_D A0 (pM cI cZ cG cR ad 0 tb fi se lf ct ln tx (uI kl k ln) kp1 fl fo ol ot pl ky nu yk yn lc fw sd lw od) → va_S A0 s0.heap H locs → W p0 l e0 R0 s0 m0 a0 b0 t0 c0 H locs 0 0 Q0 (F0 m0 36 ls []) := by
      intro n0
      induction n0 with
      | zero => intro i kp1 ls H locs hi hc ho hm hl hP hD hS; exact absurd hm (Nat.not_lt_zero _)
      | succ n0 ih36 =>
        intro i kp1 ls H locs hi hc ho hm36 hl hP hD hS
        refine lv_iload_n (pc := 36) gX gB dM_keep_36 rfl (lv_at hl 2 rfl) ?_
        refine lv_aload_n (pc := 37) gX gB dM_keep_37 rfl (lv_at hl 0 rfl) ?_
        refine va_get (pc := 38) (D := (dC, dI)) (ci := 5) (v := .int (iv ln)) (C := RM) (T := TM) (N := 24) gX gB hw0 inM hown hK hP 0 rfl rfl 6 (by decide) (hw0 _ q657) (fun _ h9 => h9) rfl dM_keep_38 ?_
        refine jv_icmp_ge (pc := 41) (tgt := 67) gX gB dM_keep_41 (by decide) (by omega) (by omega) (fun h3 => ?_) (fun h3 => ?_)
        · skip
          exact hret (0, (uI kl k ln), kp1) dM_keep_67 (by first | (dsimp only; first | exact Or.inl ⟨by omega, rfl, rfl, rfl⟩ | exact Or.inr ⟨by omega, by omega, rfl, rfl, fun j a b => hc j a (by omega), ho⟩) | (first | exact Or.inl ⟨by omega, rfl, rfl, rfl⟩ | exact Or.inr ⟨by omega, by omega, rfl, rfl, fun j a b => hc j a (by omega), ho⟩)) hP hD hS
        refine lv_aload_n (pc := 44) gX gB dM_keep_44 rfl (lv_at hl 0 rfl) ?_
        refine va_get (pc := 45) (D := (dC, dI)) (ci := 5) (v := .ref (ad 9)) (C := RM) (T := TM) (N := 24) gX gB hw0 inM hown hK hP 0 rfl rfl 9 (by decide) (hw0 _ q660) (fun _ h9 => h9) rfl dM_keep_45 ?_
        refine lv_bipush (pc := 48) (v := iv 40) gX gB dM_keep_48 (by decide) ?_
        refine lv_iload_n (pc := 50) gX gB dM_keep_50 rfl (lv_at hl 1 rfl) ?_
        refine jv_imul (pc := 51) (x := 40) (y := k) gX gB dM_keep_51 ?_
        refine lv_iload_n (pc := 52) gX gB dM_keep_52 rfl (lv_at hl 2 rfl) ?_
        refine jv_iadd (pc := 53) (x := 40 * k) (y := i) gX gB dM_keep_53 ?_
        refine lv_aload_n (pc := 54) gX gB dM_keep_54 rfl (lv_at hl 0 rfl) ?_
        refine va_get (pc := 55) (D := (dC, dI)) (ci := 5) (v := .ref (ad 7)) (C := RM) (T := TM) (N := 24) gX gB hw0 inM hown hK hP 0 rfl rfl 7 (by decide) (hw0 _ q658) (fun _ h9 => h9) rfl dM_keep_55 ?_
        refine lv_iload_n (pc := 58) gX gB dM_keep_58 rfl (lv_at hl 2 rfl) ?_
        refine jv_iald (pc := 59) gX gB hK hP 6 0 rfl rfl (by decide) (by omega) dM_keep_59 ?_
        refine jv_iast (pc := 60) (ws' := (pM cI cZ cG cR ad 0 tb fi se lf ct ln tx (uI kl k ln) (uI kp1 ((40 * k) + i) (tx i)) fl fo ol ot pl ky nu yk yn lc fw sd lw od)) gX gB hK hP hD hS 8 0 rfl rfl (by decide) (by omega) dM_keep_60 rfl (fun H locs hP hD hS => ?_)
        refine jv_iinc (pc := 61) (k := 2) (x := i) (n := 1) (lv' := [(2, .int (iv (i + 1))), (0, .ref (ad 0)), (1, .int (iv k))]) gX gB dM_keep_61 hl rfl (by decide) rfl (fun ls hl => ?_)
        refine lv_goto (pc := 64) (tgt := 36) gX gB dM_keep_64 (by decide) ?_
        exact ih36 (i + 1) (uI kp1 ((40 * k) + i) (tx i)) _ _ _ (by omega) (by intro j a b; by_cases e : j = i; (rw [uI_e (by omega), e]); (rw [uI_n (by omega)]; exact hc j a (by omega))) (by intro q h; rw [uI_n (by omega)]; exact ho q h) (by omega) (lv_sub hl [1, 2, 0] rfl) hP hD hS
    exact cut36 (((ln - 0 : Int).toNat) + 1) 0 kp _ _ _ (by omega) (by intro j a b; omega) (by intro q _; rfl) (Nat.lt_succ_self _) (lv_sub hl [1, 2, 0] rfl) hP hD hS
  refine lv_iconst (pc := 9) (v := iv 1) gX gB dM_keep_9 rfl ?_
  refine lv_goto (pc := 10) (tgt := 14) gX gB dM_keep_10 (by decide) ?_
  refine jv_put (pc := 14) (D := (dC, dI)) (ci := 5) (v := .int (iv 1)) (ty := .int) (C := RM) (T := TM) (N := 24) (ws' := (pM cI cZ cG cR ad 1 tb fi se lf ct ln tx kl kp fl fo ol ot pl ky nu yk yn lc fw sd lw od)) gX gB hw0 inM tyM tyM_ok nmM hown hK hP hD hS 0 rfl rfl 0 (by decide) (hw0 _ q651) (fun _ h9 => h9) rfl (by decide +kernel) rfl rfl (Nat.le_of_ble_eq_true rfl) dM_keep_14 rfl (fun H locs hP hD hS => ?_)
  refine lv_aload_n (pc := 17) gX gB dM_keep_17 rfl (lv_at hl 0 rfl) ?_
  refine va_get (pc := 18) (D := (dC, dI)) (ci := 5) (v := .int (iv 1)) (C := RM) (T := TM) (N := 24) gX gB hw0 inM hown hK hP 0 rfl rfl 0 (by decide) (hw0 _ q651) (fun _ h9 => h9) rfl dM_keep_18 ?_
  refine jv_if_ne (pc := 21) (tgt := 67) gX gB dM_keep_21 (by decide) (by decide) (fun h4 => ?_) (fun h4 => ?_)
  rotate_left
  · exact absurd h4 (by decide)
  exact hret (1, kl, kp) dM_keep_67 (by first | (dsimp only; first | exact Or.inl ⟨by omega, rfl, rfl, rfl⟩ | exact Or.inr ⟨by omega, by omega, rfl, rfl, fun j a b => hc j a (by omega), ho⟩) | (first | exact Or.inl ⟨by omega, rfl, rfl, rfl⟩ | exact Or.inr ⟨by omega, by omega, rfl, rfl, fun j a b => hc j a (by omega), ho⟩)) hP hD hS
set_option maxRecDepth 100000 in
set_option maxHeartbeats 4000000 in
theorem c_M_compare (l : Launch) (dC : Nat → ClassId) (dI : Nat → Nat → Nat) (cI : ClassId) (cZ : ClassId) (cG : ClassId) (cR : ClassId) (ad : Nat → Nat) (th : Int) (tb : Int → Int) (fi : Int → Int) (se : Int → Int) (lf : Int → Int) (ct : Int → Int) (ln : Int) (tx : Int → Int) (kl : Int → Int) (kp : Int → Int) (fl : Int) (fo : Int → Int) (ol : Int) (ot : Int → Int) (pl : Int → Int) (ky : Int) (nu : Int → Int) (yk : Int) (yn : Int → Int) (lc : Int → Int) (fw : Int → Int) (sd : Int → Int) (lw : Int → Int) (od : Int → Int) (sz : Nat) (k : Int) (hT : TBK tb) (hv : vpt fi se) (hs : SHT fi se) (hk9 : -2147483648 ≤ k ∧ k < 2147483648) (hkp : ∀ k, 0 ≤ k → k < 4 → 0 ≤ kl k ∧ kl k ≤ 40 ∧ ∀ j, 0 ≤ j → j < kl k → 0 ≤ kp (40 * k + j) ∧ kp (40 * k + j) < 75) (hl9 : 0 ≤ ln ∧ ln ≤ 40) (htx : ∀ j, 0 ≤ j → j < ln → 0 ≤ tx j ∧ tx j < 75) : Met l yM_compare wsM_compare ({ frames := 4, cells := 0, slots := 0, locals := 89 }) (va_Pc [.ref (ad 0), .int (iv k)] (jPre (dC, dI) (jT cI cZ cG cR) (pM cI cZ cG cR ad th tb fi se lf ct ln tx kl kp fl fo ol ot pl ky nu yk yn lc fw sd lw od) sz)) (va_Qi (fun (r0 : Int32) (u : Int × Int × Int × (Int → Int) × (Int → Int) × Int × (Int → Int) × Int × (Int → Int)) => r0 = iv u.1 ∧ (((k < 0 ∨ 3 < k) ∧ u.2.1 = 1) ∨ (0 ≤ k ∧ k ≤ 3 ∧ u.2.1 = 0 ∧ u.1 = cmpL (KYL (wtM tb) (rkM tb) fi se tx ln) (KYL (wtM tb) (rkM tb) fi se (fun j => kp (40 * k + j)) (kl k))))) (fun u => jEnd (dC, dI) (jT cI cZ cG cR) (va_A (pM cI cZ cG cR ad th tb fi se lf ct ln tx kl kp fl fo ol ot pl ky nu yk yn lc fw sd lw od) sz) (pM cI cZ cG cR ad u.2.1 tb fi se lf ct ln tx kl kp u.2.2.1 u.2.2.2.1 ol ot u.2.2.2.2.1 u.2.2.2.2.2.1 u.2.2.2.2.2.2.1 u.2.2.2.2.2.2.2.1 u.2.2.2.2.2.2.2.2 lc fw sd lw od)) (va_A (pM cI cZ cG cR ad th tb fi se lf ct ln tx kl kp fl fo ol ot pl ky nu yk yn lc fw sd lw od) sz)) 0 0 (va_A (pM cI cZ cG cR ad th tb fi se lf ct ln tx kl kp fl fo ol ot pl ky nu yk yn lc fw sd lw od) sz) := by
  refine jv_mi (cc := cM_compare) (maxL := 3) (by decide) rfl (Nat.le_of_ble_eq_true rfl) ?_
  intro p0 e0 s0 m0 a0 b0 t0 c0 R0 Q0 A0 ls gX gB hts hown hml hRf hRl hA hK hret hl hP hD hS
  have hown : s0.vm.findClass "TextPipelineModel" = some m0.cls := hown
  have hw0 : ∀ w ∈ WS0, w.before a0 s0 = true := fun w h => hts w (List.mem_cons_of_mem _ h)
  have hl : lv_has ls 3 [(0, .ref (ad 0)), (1, .int (iv k))] := hl
  have hRf : 4 ≤ R0.frames := hRf
  have hRl : 89 ≤ R0.locals := hRl
  refine lv_aload_n (pc := 0) gX gB dM_compare_0 rfl (lv_at hl 0 rfl) ?_
  refine lv_aload_n (pc := 1) gX gB dM_compare_1 rfl (lv_at hl 0 rfl) ?_
  refine lv_iload_n (pc := 2) gX gB dM_compare_2 rfl (lv_at hl 1 rfl) ?_
  refine jv_ri (pc := 3) (wr := []) (wn := fun u : Int => (pM cI cZ cG cR ad th tb fi se lf ct ln tx kl kp fl fo ol ot pl ky nu yk yn lc fw sd lw od)) (va_runV (rest := [.ref (ad 0)]) ⟨gX, gB, hml, hown, hw0⟩ (c_M_noSlot l dC dI cI cZ cG cR ad th tb fi se lf ct ln tx kl kp fl fo ol ot pl ky nu yk yn lc fw sd lw od _ k (by omega)) (jcV hw0 kM_noSlot q928 rfl rfl ⟨Nat.le_trans (Nat.le_of_ble_eq_true rfl) hRf, Nat.le_trans (Nat.le_of_ble_eq_true rfl) hRl⟩) (jv_preV (ci := 5) (q0 := 0) hK hP hD [0, 1, 2, 3, 4, 5, 6, 7, 8, 9, 10, 11, 12, 13, 14, 15, 16, 17, 18] rfl (by decide) rfl rfl) rfl rfl hl.1 rfl (lv_room (Nat.le_of_ble_eq_true rfl)) dM_compare_3 ⟨Nat.zero_le _, Nat.zero_le _⟩) hP hD hS hA [0, 1, 2, 3, 4, 5, 6, 7, 8, 9, 10, 11, 12, 13, 14, 15, 16, 17, 18] [] [0, 1, 2, 3, 4, 5, 6, 7, 8, 9, 10, 11, 12, 13, 14, 15, 16, 17, 18] rfl rfl (by decide) (by decide) (by decide) (fun _ => rfl) (fun r0 u H locs hw3 hP hD hS => ?_)
  obtain ⟨r_3, hu⟩ : ∃ z, z = u := ⟨_, rfl⟩; subst hu
  obtain ⟨rfl, hw3⟩ := hw3
  refine jv_if_eq (pc := 6) (tgt := 13) gX gB dM_compare_6 (by decide) (by omega) (fun h1 => ?_) (fun h1 => ?_)
  · skip
    refine lv_iconst (pc := 13) (v := iv 0) gX gB dM_compare_13 rfl ?_
    refine jv_put (pc := 14) (D := (dC, dI)) (ci := 5) (v := .int (iv 0)) (ty := .int) (C := RM) (T := TM) (N := 24) (ws' := (pM cI cZ cG cR ad 0 tb fi se lf ct ln tx kl kp fl fo ol ot pl ky nu yk yn lc fw sd lw od)) gX gB hw0 inM tyM tyM_ok nmM hown hK hP hD hS 0 rfl rfl 0 (by decide) (hw0 _ q651) (fun _ h9 => h9) rfl (by decide +kernel) rfl rfl (Nat.le_of_ble_eq_true rfl) dM_compare_14 rfl (fun H locs hP hD hS => ?_)
    refine lv_aload_n (pc := 17) gX gB dM_compare_17 rfl (lv_at hl 0 rfl) ?_
    refine va_get (pc := 18) (D := (dC, dI)) (ci := 5) (v := .int (iv 0)) (C := RM) (T := TM) (N := 24) gX gB hw0 inM hown hK hP 0 rfl rfl 0 (by decide) (hw0 _ q651) (fun _ h9 => h9) rfl dM_compare_18 ?_
    refine jv_if_eq (pc := 21) (tgt := 26) gX gB dM_compare_21 (by decide) (by decide) (fun h2 => ?_) (fun h2 => ?_)
    rotate_left
    · exact absurd h2 (by decide)
    obtain ⟨hka, hkb, hkc⟩ := hkp k (by omega) (by omega)
    refine lv_aload_n (pc := 26) gX gB dM_compare_26 rfl (lv_at hl 0 rfl) ?_
    refine lv_iload_n (pc := 27) gX gB dM_compare_27 rfl (lv_at hl 1 rfl) ?_
    refine jv_rv (pc := 28) (wr := []) (wn := fun u : Int × (Int → Int) × (Int → Int) => (pM cI cZ cG cR ad 0 tb fi se lf ct ln tx kl kp u.1 u.2.1 ol ot u.2.2 ky nu yk yn lc fw sd lw od)) (va_runV (rest := []) ⟨gX, gB, hml, hown, hw0⟩ (c_M_partKept l dC dI cI cZ cG cR ad 0 tb fi se lf ct ln tx kl kp fl fo ol ot pl ky nu yk yn lc fw sd lw od _ k (by omega) (by omega) (by omega) (by omega) (by exact ⟨hka, hkb⟩) (by exact hkc)) (jcV hw0 kM_partKept q936 rfl rfl ⟨Nat.le_trans (Nat.le_of_ble_eq_true rfl) hRf, Nat.le_trans (Nat.le_of_ble_eq_true rfl) hRl⟩) (jv_preV (ci := 5) (q0 := 0) hK hP hD [0, 1, 2, 3, 4, 5, 6, 7, 8, 9, 10, 11, 12, 13, 14, 15, 16, 17, 18] rfl (by decide) rfl rfl) rfl rfl hl.1 rfl (lv_room (Nat.le_of_ble_eq_true rfl)) dM_compare_28 ⟨Nat.zero_le _, Nat.zero_le _⟩) hP hD hS hA [0, 1, 2, 3, 4, 5, 6, 7, 8, 9, 10, 11, 12, 13, 14, 15, 16, 17, 18] [] [0, 1, 2, 3, 4, 5, 6, 7, 8, 9, 10, 11, 12, 13, 14, 15, 16, 17, 18] rfl rfl (by decide) (by decide) (by decide) (fun _ => rfl) (fun u H locs hw28 hP hD hS => ?_)
    obtain ⟨fl_28, fo_28, pl_28⟩ := u
    dsimp only at hw28 hP hD
    have hr28 : ∀ j, 0 ≤ j → j < fl_28 → 0 ≤ fo_28 j ∧ fo_28 j < 75 := fun j a b => by have h9 := rsg_in (g := fo_28) (n := fl_28.toNat) (j := j) a (by omega); rw [hw28.2.2] at h9; have := FM_mem hv hkc _ h9; omega
    refine lv_aload_n (pc := 31) gX gB dM_compare_31 rfl (lv_at hl 0 rfl) ?_
    refine jv_rv (pc := 32) (wr := []) (wn := fun u : Int × (Int → Int) => (pM cI cZ cG cR ad 0 tb fi se lf ct ln tx kl kp fl_28 fo_28 ol ot pl_28 u.1 u.2 yk yn lc fw sd lw od)) (va_runV (rest := []) ⟨gX, gB, hml, hown, hw0⟩ (c_M_findKey l dC dI cI cZ cG cR ad 0 tb fi se lf ct ln tx kl kp fl_28 fo_28 ol ot pl_28 ky nu yk yn lc fw sd lw od _  (by omega) (by omega) (by exact hr28)) (jcV hw0 kM_findKey q912 rfl rfl ⟨Nat.le_trans (Nat.le_of_ble_eq_true rfl) hRf, Nat.le_trans (Nat.le_of_ble_eq_true rfl) hRl⟩) (jv_preV (ci := 5) (q0 := 0) hK hP hD [0, 1, 2, 3, 4, 5, 6, 7, 8, 9, 10, 11, 12, 13, 14, 15, 16, 17, 18] rfl (by decide) rfl rfl) rfl rfl hl.1 rfl (lv_room (Nat.le_of_ble_eq_true rfl)) dM_compare_32 ⟨Nat.zero_le _, Nat.zero_le _⟩) hP hD hS hA [0, 1, 2, 3, 4, 5, 6, 7, 8, 9, 10, 11, 12, 13, 14, 15, 16, 17, 18] [] [0, 1, 2, 3, 4, 5, 6, 7, 8, 9, 10, 11, 12, 13, 14, 15, 16, 17, 18] rfl rfl (by decide) (by decide) (by decide) (fun _ => rfl) (fun u H locs hw32 hP hD hS => ?_)
    obtain ⟨ky_32, nu_32⟩ := u
    dsimp only at hw32 hP hD
    have hk1 : rsg nu_32 ky_32.toNat = (KYL (wtM tb) (rkM tb) fi se (fun j => kp (40 * k + j)) (kl k)).reverse := by rw [hw32.2.2, sg_rsg, hw28.2.2]; rfl
    have hk1_l : (KYL (wtM tb) (rkM tb) fi se (fun j => kp (40 * k + j)) (kl k)).length = ky_32.toNat := by have q := congrArg List.length hk1; rw [rsg_len, List.length_reverse] at q; exact q.symm
    have hw32b := hw32.2.1
    refine lv_aload_n (pc := 35) gX gB dM_compare_35 rfl (lv_at hl 0 rfl) ?_
    refine lv_aload_n (pc := 36) gX gB dM_compare_36 rfl (lv_at hl 0 rfl) ?_
    refine va_get (pc := 37) (D := (dC, dI)) (ci := 5) (v := .int (iv ky_32)) (C := RM) (T := TM) (N := 24) gX gB hw0 inM hown hK hP 0 rfl rfl 15 (by decide) (hw0 _ q666) (fun _ h9 => h9) rfl dM_compare_37 ?_
    refine jv_put (pc := 40) (D := (dC, dI)) (ci := 5) (v := .int (iv ky_32)) (ty := .int) (C := RM) (T := TM) (N := 24) (ws' := (pM cI cZ cG cR ad 0 tb fi se lf ct ln tx kl kp fl_28 fo_28 ol ot pl_28 ky_32 nu_32 ky_32 yn lc fw sd lw od)) gX gB hw0 inM tyM tyM_ok nmM hown hK hP hD hS 0 rfl rfl 17 (by decide) (hw0 _ q668) (fun _ h9 => h9) rfl (by decide +kernel) rfl rfl (Nat.le_of_ble_eq_true rfl) dM_compare_40 rfl (fun H locs hP hD hS => ?_)
    refine lv_iconst (pc := 43) (v := iv 0) gX gB dM_compare_43 rfl ?_
    refine lv_istore_n (pc := 44) (lv' := [(2, .int (iv 0)), (0, .ref (ad 0)), (1, .int (iv k))]) gX gB dM_compare_44 rfl hl (by decide) rfl (fun ls hl => ?_)
    have cut45 : ∀ (n0 : Nat) (i : Int) (yn1 : Int → Int) (ls : Array Slot) (H : Heap) (locs : List Loc), (0 ≤ i ∧ i ≤ ky_32) → (∀ j, 0 ≤ j → j < i → yn1 j = nu_32 j) → ((ky_32 - i : Int).toNat < n0) → lv_has ls 3 [(0, .ref (ad 0)), (1, .int (iv k)), (2, .int (iv i))] → va_P (dC, dI) vwCl (pM cI cZ cG cR ad 0 tb fi se lf ct ln tx kl kp fl_28 fo_28 ol ot pl_28 ky_32 nu_32 ky_32 yn1 lc fw sd lw od) H → va_D A0 (pM cI cZ cG cR ad 0 tb fi se lf ct ln tx kl kp fl_28 fo_28 ol ot pl_28 ky_32 nu_32 ky_32 yn1 lc fw sd lw od) → va_S A0 s0.heap H locs → W p0 l e0 R0 s0 m0 a0 b0 t0 c0 H locs 0 0 Q0 (F0 m0 45 ls []) := by
      intro n0
      induction n0 with
      | zero => intro i yn1 ls H locs hi hc hm hl hP hD hS; exact absurd hm (Nat.not_lt_zero _)
      | succ n0 ih45 =>
        intro i yn1 ls H locs hi hc hm45 hl hP hD hS
        refine lv_iload_n (pc := 45) gX gB dM_compare_45 rfl (lv_at hl 2 rfl) ?_
        refine lv_aload_n (pc := 46) gX gB dM_compare_46 rfl (lv_at hl 0 rfl) ?_
        refine va_get (pc := 47) (D := (dC, dI)) (ci := 5) (v := .int (iv ky_32)) (C := RM) (T := TM) (N := 24) gX gB hw0 inM hown hK hP 0 rfl rfl 15 (by decide) (hw0 _ q666) (fun _ h9 => h9) rfl dM_compare_47 ?_
        refine jv_icmp_ge (pc := 50) (tgt := 71) gX gB dM_compare_50 (by decide) (by omega) (by omega) (fun h3 => ?_) (fun h3 => ?_)
        · skip
          have hy1 : sg yn1 0 ky_32.toNat = KYL (wtM tb) (rkM tb) fi se (fun j => kp (40 * k + j)) (kl k) := by rw [sg_congr (g := yn1) (h := nu_32) _ _ (fun j a b => hc j a (by omega)), sg_rsg, hk1, List.reverse_reverse]
          refine lv_aload_n (pc := 71) gX gB dM_compare_71 rfl (lv_at hl 0 rfl) ?_
          refine jv_rv (pc := 72) (wr := []) (wn := fun u : Int × (Int → Int) × (Int → Int) => (pM cI cZ cG cR ad 0 tb fi se lf ct ln tx kl kp u.1 u.2.1 ol ot u.2.2 ky_32 nu_32 ky_32 yn1 lc fw sd lw od)) (va_runV (rest := []) ⟨gX, gB, hml, hown, hw0⟩ (c_M_partText l dC dI cI cZ cG cR ad 0 tb fi se lf ct ln tx kl kp fl_28 fo_28 ol ot pl_28 ky_32 nu_32 ky_32 yn1 lc fw sd lw od _  (by omega) (by omega) (by omega) (by omega) (by omega)) (jcV hw0 kM_partText q760 rfl rfl ⟨Nat.le_trans (Nat.le_of_ble_eq_true rfl) hRf, Nat.le_trans (Nat.le_of_ble_eq_true rfl) hRl⟩) (jv_preV (ci := 5) (q0 := 0) hK hP hD [0, 1, 2, 3, 4, 5, 6, 7, 8, 9, 10, 11, 12, 13, 14, 15, 16, 17, 18] rfl (by decide) rfl rfl) rfl rfl hl.1 rfl (lv_room (Nat.le_of_ble_eq_true rfl)) dM_compare_72 ⟨Nat.zero_le _, Nat.zero_le _⟩) hP hD hS hA [0, 1, 2, 3, 4, 5, 6, 7, 8, 9, 10, 11, 12, 13, 14, 15, 16, 17, 18] [] [0, 1, 2, 3, 4, 5, 6, 7, 8, 9, 10, 11, 12, 13, 14, 15, 16, 17, 18] rfl rfl (by decide) (by decide) (by decide) (fun _ => rfl) (fun u H locs hw72 hP hD hS => ?_)
          obtain ⟨fl_72, fo_72, pl_72⟩ := u
          dsimp only at hw72 hP hD
          have hr72 : ∀ j, 0 ≤ j → j < fl_72 → 0 ≤ fo_72 j ∧ fo_72 j < 75 := fun j a b => by have h9 := rsg_in (g := fo_72) (n := fl_72.toNat) (j := j) a (by omega); rw [hw72.2.2] at h9; have := FM_mem hv htx _ h9; omega
          refine lv_aload_n (pc := 75) gX gB dM_compare_75 rfl (lv_at hl 0 rfl) ?_
          refine jv_rv (pc := 76) (wr := []) (wn := fun u : Int × (Int → Int) => (pM cI cZ cG cR ad 0 tb fi se lf ct ln tx kl kp fl_72 fo_72 ol ot pl_72 u.1 u.2 ky_32 yn1 lc fw sd lw od)) (va_runV (rest := []) ⟨gX, gB, hml, hown, hw0⟩ (c_M_findKey l dC dI cI cZ cG cR ad 0 tb fi se lf ct ln tx kl kp fl_72 fo_72 ol ot pl_72 ky_32 nu_32 ky_32 yn1 lc fw sd lw od _  (by omega) (by omega) (by exact hr72)) (jcV hw0 kM_findKey q912 rfl rfl ⟨Nat.le_trans (Nat.le_of_ble_eq_true rfl) hRf, Nat.le_trans (Nat.le_of_ble_eq_true rfl) hRl⟩) (jv_preV (ci := 5) (q0 := 0) hK hP hD [0, 1, 2, 3, 4, 5, 6, 7, 8, 9, 10, 11, 12, 13, 14, 15, 16, 17, 18] rfl (by decide) rfl rfl) rfl rfl hl.1 rfl (lv_room (Nat.le_of_ble_eq_true rfl)) dM_compare_76 ⟨Nat.zero_le _, Nat.zero_le _⟩) hP hD hS hA [0, 1, 2, 3, 4, 5, 6, 7, 8, 9, 10, 11, 12, 13, 14, 15, 16, 17, 18] [] [0, 1, 2, 3, 4, 5, 6, 7, 8, 9, 10, 11, 12, 13, 14, 15, 16, 17, 18] rfl rfl (by decide) (by decide) (by decide) (fun _ => rfl) (fun u H locs hw76 hP hD hS => ?_)
          obtain ⟨ky_76, nu_76⟩ := u
          dsimp only at hw76 hP hD
          have hk2 : rsg nu_76 ky_76.toNat = (KYL (wtM tb) (rkM tb) fi se tx ln).reverse := by rw [hw76.2.2, sg_rsg, hw72.2.2]; rfl
          have hk2_l : (KYL (wtM tb) (rkM tb) fi se tx ln).length = ky_76.toNat := by have q := congrArg List.length hk2; rw [rsg_len, List.length_reverse] at q; exact q.symm
          have hy2 : sg nu_76 0 ky_76.toNat = KYL (wtM tb) (rkM tb) fi se tx ln := by rw [sg_rsg, hk2, List.reverse_reverse]
          have hrn : ∀ x ∈ KYL (wtM tb) (rkM tb) fi se tx ln, 0 ≤ x ∧ x ≤ 1074 := fun x hx => kpf_rng (fun k a b c p q => wtM_rng hT p q ⟨a, b⟩) _ (fun x hx => by have := FM_mem (rk := rkM tb) hv htx x (List.mem_reverse.mp hx); omega) x hx
          have hrk : ∀ x ∈ KYL (wtM tb) (rkM tb) fi se (fun j => kp (40 * k + j)) (kl k), 0 ≤ x ∧ x ≤ 1074 := fun x hx => kpf_rng (fun k a b c p q => wtM_rng hT p q ⟨a, b⟩) _ (fun x hx => by have := FM_mem (rk := rkM tb) hv hkc x (List.mem_reverse.mp hx); omega) x hx
          refine lv_iconst (pc := 79) (v := iv 0) gX gB dM_compare_79 rfl ?_
          refine lv_istore_n (pc := 80) (lv' := [(2, .int (iv 0)), (0, .ref (ad 0)), (1, .int (iv k))]) gX gB dM_compare_80 rfl hl (by decide) rfl (fun ls hl => ?_)
          have cut139 : ∀ (i : Int) (ls : Array Slot) (H : Heap) (locs : List Loc), (0 ≤ i ∧ i ≤ ky_76 ∧ i ≤ ky_32 ∧ (i = ky_76 ∨ i = ky_32)) → (cmpL (sg nu_76 i (ky_76 - i : Int).toNat) (sg yn1 i (ky_32 - i : Int).toNat) = cmpL (KYL (wtM tb) (rkM tb) fi se tx ln) (KYL (wtM tb) (rkM tb) fi se (fun j => kp (40 * k + j)) (kl k))) → lv_has ls 3 [(0, .ref (ad 0)), (2, .int (iv i))] → va_P (dC, dI) vwCl (pM cI cZ cG cR ad 0 tb fi se lf ct ln tx kl kp fl_72 fo_72 ol ot pl_72 ky_76 nu_76 ky_32 yn1 lc fw sd lw od) H → va_D A0 (pM cI cZ cG cR ad 0 tb fi se lf ct ln tx kl kp fl_72 fo_72 ol ot pl_72 ky_76 nu_76 ky_32 yn1 lc fw sd lw od) → va_S A0 s0.heap H locs → W p0 l e0 R0 s0 m0 a0 b0 t0 c0 H locs 0 0 Q0 (F0 m0 139 ls []) := by
            intro i ls H locs hi hc hl hP hD hS
            refine lv_aload_n (pc := 139) gX gB dM_compare_139 rfl (lv_at hl 0 rfl) ?_
            refine va_get (pc := 140) (D := (dC, dI)) (ci := 5) (v := .int (iv ky_76)) (C := RM) (T := TM) (N := 24) gX gB hw0 inM hown hK hP 0 rfl rfl 15 (by decide) (hw0 _ q666) (fun _ h9 => h9) rfl dM_compare_140 ?_
            refine lv_aload_n (pc := 143) gX gB dM_compare_143 rfl (lv_at hl 0 rfl) ?_
            refine va_get (pc := 144) (D := (dC, dI)) (ci := 5) (v := .int (iv ky_32)) (C := RM) (T := TM) (N := 24) gX gB hw0 inM hown hK hP 0 rfl rfl 17 (by decide) (hw0 _ q668) (fun _ h9 => h9) rfl dM_compare_144 ?_
            refine jv_icmp_ge (pc := 147) (tgt := 154) gX gB dM_compare_147 (by decide) (by omega) (by omega) (fun h4 => ?_) (fun h4 => ?_)
            · skip
              refine lv_aload_n (pc := 154) gX gB dM_compare_154 rfl (lv_at hl 0 rfl) ?_
              refine va_get (pc := 155) (D := (dC, dI)) (ci := 5) (v := .int (iv ky_76)) (C := RM) (T := TM) (N := 24) gX gB hw0 inM hown hK hP 0 rfl rfl 15 (by decide) (hw0 _ q666) (fun _ h9 => h9) rfl dM_compare_155 ?_
              refine lv_aload_n (pc := 158) gX gB dM_compare_158 rfl (lv_at hl 0 rfl) ?_
              refine va_get (pc := 159) (D := (dC, dI)) (ci := 5) (v := .int (iv ky_32)) (C := RM) (T := TM) (N := 24) gX gB hw0 inM hown hK hP 0 rfl rfl 17 (by decide) (hw0 _ q668) (fun _ h9 => h9) rfl dM_compare_159 ?_
              refine jv_icmp_le (pc := 162) (tgt := 169) gX gB dM_compare_162 (by decide) (by omega) (by omega) (fun h5 => ?_) (fun h5 => ?_)
              · skip
                refine lv_iconst (pc := 169) (v := iv 0) gX gB dM_compare_169 rfl ?_
                exact hret _ (0, 0, fl_72, fo_72, pl_72, ky_76, nu_76, ky_32, yn1) dM_compare_170 ⟨rfl, by first | (dsimp only; refine Or.inr ⟨by omega, by omega, rfl, ?_⟩; rw [← hc]; first | (rw [show ky_76 - i = 0 by omega, sg_cons (n := ky_32 - i) (by omega)]; rfl) | (rw [show ky_32 - i = 0 by omega, sg_cons (n := ky_76 - i) (by omega)]; rfl) | (rw [show ky_76 - i = 0 by omega, show ky_32 - i = 0 by omega]; rfl)) | (refine Or.inr ⟨by omega, by omega, rfl, ?_⟩; rw [← hc]; first | (rw [show ky_76 - i = 0 by omega, sg_cons (n := ky_32 - i) (by omega)]; rfl) | (rw [show ky_32 - i = 0 by omega, sg_cons (n := ky_76 - i) (by omega)]; rfl) | (rw [show ky_76 - i = 0 by omega, show ky_32 - i = 0 by omega]; rfl))⟩ hP hD hS
              refine lv_iconst (pc := 165) (v := iv 1) gX gB dM_compare_165 rfl ?_
              refine lv_goto (pc := 166) (tgt := 170) gX gB dM_compare_166 (by decide) ?_
              exact hret _ (1, 0, fl_72, fo_72, pl_72, ky_76, nu_76, ky_32, yn1) dM_compare_170 ⟨rfl, by first | (dsimp only; refine Or.inr ⟨by omega, by omega, rfl, ?_⟩; rw [← hc]; first | (rw [show ky_76 - i = 0 by omega, sg_cons (n := ky_32 - i) (by omega)]; rfl) | (rw [show ky_32 - i = 0 by omega, sg_cons (n := ky_76 - i) (by omega)]; rfl) | (rw [show ky_76 - i = 0 by omega, show ky_32 - i = 0 by omega]; rfl)) | (refine Or.inr ⟨by omega, by omega, rfl, ?_⟩; rw [← hc]; first | (rw [show ky_76 - i = 0 by omega, sg_cons (n := ky_32 - i) (by omega)]; rfl) | (rw [show ky_32 - i = 0 by omega, sg_cons (n := ky_76 - i) (by omega)]; rfl) | (rw [show ky_76 - i = 0 by omega, show ky_32 - i = 0 by omega]; rfl))⟩ hP hD hS
            refine lv_iconst (pc := 150) (v := iv (-1)) gX gB dM_compare_150 rfl ?_
            refine lv_goto (pc := 151) (tgt := 170) gX gB dM_compare_151 (by decide) ?_
            exact hret _ ((-1), 0, fl_72, fo_72, pl_72, ky_76, nu_76, ky_32, yn1) dM_compare_170 ⟨rfl, by first | (dsimp only; refine Or.inr ⟨by omega, by omega, rfl, ?_⟩; rw [← hc]; first | (rw [show ky_76 - i = 0 by omega, sg_cons (n := ky_32 - i) (by omega)]; rfl) | (rw [show ky_32 - i = 0 by omega, sg_cons (n := ky_76 - i) (by omega)]; rfl) | (rw [show ky_76 - i = 0 by omega, show ky_32 - i = 0 by omega]; rfl)) | (refine Or.inr ⟨by omega, by omega, rfl, ?_⟩; rw [← hc]; first | (rw [show ky_76 - i = 0 by omega, sg_cons (n := ky_32 - i) (by omega)]; rfl) | (rw [show ky_32 - i = 0 by omega, sg_cons (n := ky_76 - i) (by omega)]; rfl) | (rw [show ky_76 - i = 0 by omega, show ky_32 - i = 0 by omega]; rfl))⟩ hP hD hS
          have cut81 : ∀ (n0 : Nat) (i : Int) (ls : Array Slot) (H : Heap) (locs : List Loc), (0 ≤ i ∧ i ≤ ky_76 ∧ i ≤ ky_32) → (cmpL (sg nu_76 i (ky_76 - i : Int).toNat) (sg yn1 i (ky_32 - i : Int).toNat) = cmpL (KYL (wtM tb) (rkM tb) fi se tx ln) (KYL (wtM tb) (rkM tb) fi se (fun j => kp (40 * k + j)) (kl k))) → ((ky_76 - i : Int).toNat < n0) → lv_has ls 3 [(0, .ref (ad 0)), (2, .int (iv i))] → va_P (dC, dI) vwCl (pM cI cZ cG cR ad 0 tb fi se lf ct ln tx kl kp fl_72 fo_72 ol ot pl_72 ky_76 nu_76 ky_32 yn1 lc fw sd lw od) H → va_D A0 (pM cI cZ cG cR ad 0 tb fi se lf ct ln tx kl kp fl_72 fo_72 ol ot pl_72 ky_76 nu_76 ky_32 yn1 lc fw sd lw od) → va_S A0 s0.heap H locs → W p0 l e0 R0 s0 m0 a0 b0 t0 c0 H locs 0 0 Q0 (F0 m0 81 ls []) := by
            intro n0
            induction n0 with
            | zero => intro i ls H locs hi hc hm hl hP hD hS; exact absurd hm (Nat.not_lt_zero _)
            | succ n0 ih81 =>
              intro i ls H locs hi hc hm81 hl hP hD hS
              refine lv_iload_n (pc := 81) gX gB dM_compare_81 rfl (lv_at hl 1 rfl) ?_
              refine lv_aload_n (pc := 82) gX gB dM_compare_82 rfl (lv_at hl 0 rfl) ?_
              refine va_get (pc := 83) (D := (dC, dI)) (ci := 5) (v := .int (iv ky_76)) (C := RM) (T := TM) (N := 24) gX gB hw0 inM hown hK hP 0 rfl rfl 15 (by decide) (hw0 _ q666) (fun _ h9 => h9) rfl dM_compare_83 ?_
              refine jv_icmp_ge (pc := 86) (tgt := 139) gX gB dM_compare_86 (by decide) (by omega) (by omega) (fun h6 => ?_) (fun h6 => ?_)
              · skip
                exact cut139 i _ _ _ (by omega) (by exact hc) hl hP hD hS
              refine lv_iload_n (pc := 89) gX gB dM_compare_89 rfl (lv_at hl 1 rfl) ?_
              refine lv_aload_n (pc := 90) gX gB dM_compare_90 rfl (lv_at hl 0 rfl) ?_
              refine va_get (pc := 91) (D := (dC, dI)) (ci := 5) (v := .int (iv ky_32)) (C := RM) (T := TM) (N := 24) gX gB hw0 inM hown hK hP 0 rfl rfl 17 (by decide) (hw0 _ q668) (fun _ h9 => h9) rfl dM_compare_91 ?_
              refine jv_icmp_ge (pc := 94) (tgt := 139) gX gB dM_compare_94 (by decide) (by omega) (by omega) (fun h7 => ?_) (fun h7 => ?_)
              · skip
                exact cut139 i _ _ _ (by omega) (by exact hc) hl hP hD hS
              have ra : 0 ≤ nu_76 i ∧ nu_76 i ≤ 1074 := hrn _ (by rw [← hy2, sg_rsg, List.mem_reverse]; exact rsg_in (by omega) (by omega))
              have rb : 0 ≤ yn1 i ∧ yn1 i ≤ 1074 := hrk _ (by rw [← hy1, sg_rsg, List.mem_reverse]; exact rsg_in (by omega) (by omega))
              have hc2 := hc
              rw [sg_cons (n := ky_76 - i) (by omega), sg_cons (n := ky_32 - i) (by omega)] at hc2
              refine lv_aload_n (pc := 97) gX gB dM_compare_97 rfl (lv_at hl 0 rfl) ?_
              refine va_get (pc := 98) (D := (dC, dI)) (ci := 5) (v := .ref (ad 16)) (C := RM) (T := TM) (N := 24) gX gB hw0 inM hown hK hP 0 rfl rfl 16 (by decide) (hw0 _ q667) (fun _ h9 => h9) rfl dM_compare_98 ?_
              refine lv_iload_n (pc := 101) gX gB dM_compare_101 rfl (lv_at hl 1 rfl) ?_
              refine jv_iald (pc := 102) gX gB hK hP 12 0 rfl rfl (by decide) (by omega) dM_compare_102 ?_
              refine lv_aload_n (pc := 103) gX gB dM_compare_103 rfl (lv_at hl 0 rfl) ?_
              refine va_get (pc := 104) (D := (dC, dI)) (ci := 5) (v := .ref (ad 18)) (C := RM) (T := TM) (N := 24) gX gB hw0 inM hown hK hP 0 rfl rfl 18 (by decide) (hw0 _ q669) (fun _ h9 => h9) rfl dM_compare_104 ?_
              refine lv_iload_n (pc := 107) gX gB dM_compare_107 rfl (lv_at hl 1 rfl) ?_
              refine jv_iald (pc := 108) gX gB hK hP 13 0 rfl rfl (by decide) (by omega) dM_compare_108 ?_
              refine jv_icmp_eq (pc := 109) (tgt := 133) gX gB dM_compare_109 (by decide) (by omega) (by omega) (fun h8 => ?_) (fun h8 => ?_)
              · skip
                refine jv_iinc (pc := 133) (k := 1) (x := i) (n := 1) (lv' := [(2, .int (iv (i + 1))), (0, .ref (ad 0))]) gX gB dM_compare_133 hl rfl (by decide) rfl (fun ls hl => ?_)
                refine lv_goto (pc := 136) (tgt := 81) gX gB dM_compare_136 (by decide) ?_
                exact ih81 (i + 1) _ _ _ (by omega) (by rw [← hc2, show ky_76 - (i + 1) = ky_76 - i - 1 by omega, show ky_32 - (i + 1) = ky_32 - i - 1 by omega]; have q : nu_76 i = yn1 i := (by assumption); rw [q, cmpL_eq]) (by omega) (lv_sub hl [1, 0] rfl) hP hD hS
              refine lv_aload_n (pc := 112) gX gB dM_compare_112 rfl (lv_at hl 0 rfl) ?_
              refine va_get (pc := 113) (D := (dC, dI)) (ci := 5) (v := .ref (ad 16)) (C := RM) (T := TM) (N := 24) gX gB hw0 inM hown hK hP 0 rfl rfl 16 (by decide) (hw0 _ q667) (fun _ h9 => h9) rfl dM_compare_113 ?_
              refine lv_iload_n (pc := 116) gX gB dM_compare_116 rfl (lv_at hl 1 rfl) ?_
              refine jv_iald (pc := 117) gX gB hK hP 12 0 rfl rfl (by decide) (by omega) dM_compare_117 ?_
              refine lv_aload_n (pc := 118) gX gB dM_compare_118 rfl (lv_at hl 0 rfl) ?_
              refine va_get (pc := 119) (D := (dC, dI)) (ci := 5) (v := .ref (ad 18)) (C := RM) (T := TM) (N := 24) gX gB hw0 inM hown hK hP 0 rfl rfl 18 (by decide) (hw0 _ q669) (fun _ h9 => h9) rfl dM_compare_119 ?_
              refine lv_iload_n (pc := 122) gX gB dM_compare_122 rfl (lv_at hl 1 rfl) ?_
              refine jv_iald (pc := 123) gX gB hK hP 13 0 rfl rfl (by decide) (by omega) dM_compare_123 ?_
              refine jv_icmp_ge (pc := 124) (tgt := 131) gX gB dM_compare_124 (by decide) (by omega) (by omega) (fun h9 => ?_) (fun h9 => ?_)
              · skip
                refine lv_iconst (pc := 131) (v := iv 1) gX gB dM_compare_131 rfl ?_
                exact hret _ (1, 0, fl_72, fo_72, pl_72, ky_76, nu_76, ky_32, yn1) dM_compare_132 ⟨rfl, by first | (dsimp only; refine Or.inr ⟨by omega, by omega, rfl, ?_⟩; rw [← hc2, cmpL_ne (by assumption)]; first | (rw [if_pos (by assumption)]) | (rw [if_neg (by omega)])) | (refine Or.inr ⟨by omega, by omega, rfl, ?_⟩; rw [← hc2, cmpL_ne (by assumption)]; first | (rw [if_pos (by assumption)]) | (rw [if_neg (by omega)]))⟩ hP hD hS
              refine lv_iconst (pc := 127) (v := iv (-1)) gX gB dM_compare_127 rfl ?_
              refine lv_goto (pc := 128) (tgt := 132) gX gB dM_compare_128 (by decide) ?_
              exact hret _ ((-1), 0, fl_72, fo_72, pl_72, ky_76, nu_76, ky_32, yn1) dM_compare_132 ⟨rfl, by first | (dsimp only; refine Or.inr ⟨by omega, by omega, rfl, ?_⟩; rw [← hc2, cmpL_ne (by assumption)]; first | (rw [if_pos (by assumption)]) | (rw [if_neg (by omega)])) | (refine Or.inr ⟨by omega, by omega, rfl, ?_⟩; rw [← hc2, cmpL_ne (by assumption)]; first | (rw [if_pos (by assumption)]) | (rw [if_neg (by omega)]))⟩ hP hD hS
          exact cut81 (((ky_76 - 0 : Int).toNat) + 1) 0 _ _ _ (by omega) (by rw [show ky_76 - 0 = ky_76 by omega, show ky_32 - 0 = ky_32 by omega, hy1, hy2]) (Nat.lt_succ_self _) (lv_sub hl [1, 0] rfl) hP hD hS
        refine lv_aload_n (pc := 53) gX gB dM_compare_53 rfl (lv_at hl 0 rfl) ?_
        refine va_get (pc := 54) (D := (dC, dI)) (ci := 5) (v := .ref (ad 18)) (C := RM) (T := TM) (N := 24) gX gB hw0 inM hown hK hP 0 rfl rfl 18 (by decide) (hw0 _ q669) (fun _ h9 => h9) rfl dM_compare_54 ?_
        refine lv_iload_n (pc := 57) gX gB dM_compare_57 rfl (lv_at hl 2 rfl) ?_
        refine lv_aload_n (pc := 58) gX gB dM_compare_58 rfl (lv_at hl 0 rfl) ?_
        refine va_get (pc := 59) (D := (dC, dI)) (ci := 5) (v := .ref (ad 16)) (C := RM) (T := TM) (N := 24) gX gB hw0 inM hown hK hP 0 rfl rfl 16 (by decide) (hw0 _ q667) (fun _ h9 => h9) rfl dM_compare_59 ?_
        refine lv_iload_n (pc := 62) gX gB dM_compare_62 rfl (lv_at hl 2 rfl) ?_
        refine jv_iald (pc := 63) gX gB hK hP 12 0 rfl rfl (by decide) (by omega) dM_compare_63 ?_
        refine jv_iast (pc := 64) (ws' := (pM cI cZ cG cR ad 0 tb fi se lf ct ln tx kl kp fl_28 fo_28 ol ot pl_28 ky_32 nu_32 ky_32 (uI yn1 i (nu_32 i)) lc fw sd lw od)) gX gB hK hP hD hS 13 0 rfl rfl (by decide) (by omega) dM_compare_64 rfl (fun H locs hP hD hS => ?_)
        refine jv_iinc (pc := 65) (k := 2) (x := i) (n := 1) (lv' := [(2, .int (iv (i + 1))), (0, .ref (ad 0)), (1, .int (iv k))]) gX gB dM_compare_65 hl rfl (by decide) rfl (fun ls hl => ?_)
        refine lv_goto (pc := 68) (tgt := 45) gX gB dM_compare_68 (by decide) ?_
        exact ih45 (i + 1) (uI yn1 i (nu_32 i)) _ _ _ (by omega) (by intro j a b; by_cases e : j = i; (rw [uI_e e, e]); (rw [uI_n e]; exact hc j a (by omega))) (by omega) (lv_sub hl [1, 2, 0] rfl) hP hD hS
    exact cut45 (((ky_32 - 0 : Int).toNat) + 1) 0 yn _ _ _ (by omega) (by intro j a b; omega) (Nat.lt_succ_self _) (lv_sub hl [1, 2, 0] rfl) hP hD hS
  refine lv_iconst (pc := 9) (v := iv 1) gX gB dM_compare_9 rfl ?_
  refine lv_goto (pc := 10) (tgt := 14) gX gB dM_compare_10 (by decide) ?_
  refine jv_put (pc := 14) (D := (dC, dI)) (ci := 5) (v := .int (iv 1)) (ty := .int) (C := RM) (T := TM) (N := 24) (ws' := (pM cI cZ cG cR ad 1 tb fi se lf ct ln tx kl kp fl fo ol ot pl ky nu yk yn lc fw sd lw od)) gX gB hw0 inM tyM tyM_ok nmM hown hK hP hD hS 0 rfl rfl 0 (by decide) (hw0 _ q651) (fun _ h9 => h9) rfl (by decide +kernel) rfl rfl (Nat.le_of_ble_eq_true rfl) dM_compare_14 rfl (fun H locs hP hD hS => ?_)
  refine lv_aload_n (pc := 17) gX gB dM_compare_17 rfl (lv_at hl 0 rfl) ?_
  refine va_get (pc := 18) (D := (dC, dI)) (ci := 5) (v := .int (iv 1)) (C := RM) (T := TM) (N := 24) gX gB hw0 inM hown hK hP 0 rfl rfl 0 (by decide) (hw0 _ q651) (fun _ h9 => h9) rfl dM_compare_18 ?_
  refine jv_if_eq (pc := 21) (tgt := 26) gX gB dM_compare_21 (by decide) (by decide) (fun h10 => ?_) (fun h10 => ?_)
  · exact absurd h10 (by decide)
  refine lv_iconst (pc := 24) (v := iv 0) gX gB dM_compare_24 rfl ?_
  exact hret _ (0, 1, fl, fo, pl, ky, nu, yk, yn) dM_compare_25 ⟨rfl, by first | (dsimp only; exact Or.inl ⟨by omega, rfl⟩) | (exact Or.inl ⟨by omega, rfl⟩)⟩ hP hD hS
