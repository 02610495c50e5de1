set_option maxRecDepth 100000 in
set_option maxHeartbeats 4000000 in
theorem c_M_weaken (l : Launch) (dC : Nat → ClassId) (dI : Nat → Nat → Nat) (cI : ClassId) (cZ : ClassId) (cG : ClassId) (cR : ClassId) (ad : Nat → Nat) (th : Int) (tb : Int → Int) (fi : Int → Int) (se : Int → Int) (lf : Int → Int) (ct : Int → Int) (ln : Int) (tx : Int → Int) (kl : Int → Int) (kp : Int → Int) (fl : Int) (fo : Int → Int) (ol : Int) (ot : Int → Int) (pl : Int → Int) (ky : Int) (nu : Int → Int) (yk : Int) (yn : Int → Int) (lc : Int → Int) (fw : Int → Int) (sd : Int → Int) (lw : Int → Int) (od : Int → Int) (sz : Nat) (hl9 : 0 ≤ ln ∧ ln ≤ 40) (hB : BS ln sd) : Met l yM_weaken wsM_weaken ({ frames := 1, cells := 0, slots := 0, locals := 24 }) (va_Pc [.ref (ad 0)] (jPre (dC, dI) (jT cI cZ cG cR) (pM cI cZ cG cR ad th tb fi se lf ct ln tx kl kp fl fo ol ot pl ky nu yk yn lc fw sd lw od) sz)) (va_Qv (fun u : (Int → Int) => EqR ln u (wk ln sd)) (fun u => jEnd (dC, dI) (jT cI cZ cG cR) (va_A (pM cI cZ cG cR ad th tb fi se lf ct ln tx kl kp fl fo ol ot pl ky nu yk yn lc fw sd lw od) sz) (pM cI cZ cG cR ad th tb fi se lf ct ln tx kl kp fl fo ol ot pl ky nu yk yn lc fw u lw od)) (va_A (pM cI cZ cG cR ad th tb fi se lf ct ln tx kl kp fl fo ol ot pl ky nu yk yn lc fw sd lw od) sz)) 0 0 (va_A (pM cI cZ cG cR ad th tb fi se lf ct ln tx kl kp fl fo ol ot pl ky nu yk yn lc fw sd lw od) sz) := by
  refine jv_mv (cc := cM_weaken) (maxL := 5) (by decide) rfl (Nat.le_of_ble_eq_true rfl) ?_
  intro p0 e0 s0 m0 a0 b0 t0 c0 R0 Q0 A0 ls gX gB hts hown hml hRf hRl hA hK hret hl hP hD hS
  have hown : s0.vm.findClass "TextPipelineModel" = some m0.cls := hown
  have hw0 : ∀ w ∈ WS0, w.before a0 s0 = true := fun w h => hts w (List.mem_cons_of_mem _ h)
  have hl : lv_has ls 5 [(0, .ref (ad 0))] := hl
  have hRf : 1 ≤ R0.frames := hRf
  have hRl : 24 ≤ R0.locals := hRl
  have hn := hl9.1
  refine lv_iconst (pc := 0) (v := iv 1) gX gB dM_weaken_0 rfl ?_
  refine lv_istore_n (pc := 1) (lv' := [(1, .int (iv 1)), (0, .ref (ad 0))]) gX gB dM_weaken_1 rfl hl (by decide) rfl (fun ls hl => ?_)
  have cut2 : ∀ (n0 : Nat) (i : Int) (f1 : Int → Int) (ls : Array Slot) (H : Heap) (locs : List Loc), (1 ≤ i ∧ i ≤ ln + 1) → (STG ln (w1 sd) sd i f1) → (RGK ln f1) → ((ln + 1 - i : Int).toNat < n0) → lv_has ls 5 [(0, .ref (ad 0)), (1, .int (iv i))] → va_P (dC, dI) vwCl (pM cI cZ cG cR ad th tb fi se lf ct ln tx kl kp fl fo ol ot pl ky nu yk yn lc fw f1 lw od) H → va_D A0 (pM cI cZ cG cR ad th tb fi se lf ct ln tx kl kp fl fo ol ot pl ky nu yk yn lc fw f1 lw od) → va_S A0 s0.heap H locs → W p0 l e0 R0 s0 m0 a0 b0 t0 c0 H locs 0 0 Q0 (F0 m0 2 ls []) := by
    intro n0
    induction n0 with
    | zero => intro i f1 ls H locs hi hg hr9 hm hl hP hD hS; exact absurd hm (Nat.not_lt_zero _)
    | succ n0 ih2 =>
      intro i f1 ls H locs hi hg hr9 hm2 hl hP hD hS
      refine lv_iload_n (pc := 2) gX gB dM_weaken_2 rfl (lv_at hl 1 rfl) ?_
      refine lv_aload_n (pc := 3) gX gB dM_weaken_3 rfl (lv_at hl 0 rfl) ?_
      refine va_get (pc := 4) (D := (dC, dI)) (ci := 5) (v := .int (iv ln)) (C := RM) (T := TM) (N := 24) gX gB hw0 inM hown hK hP 0 rfl rfl 6 (by decide) (hw0 _ q657) (fun _ h9 => h9) rfl dM_weaken_4 ?_
      refine jv_icmp_gt (pc := 7) (tgt := 50) gX gB dM_weaken_7 (by decide) (by omega) (by omega) (fun h1 => ?_) (fun h1 => ?_)
      · skip
        have E1 := stg_end hg (by omega) (BS_1 hn hB).2.2
        have B1 := BS_eq hn E1 (BS_1 hn hB).1
        clear hg hr9
        refine lv_iconst (pc := 50) (v := iv 1) gX gB dM_weaken_50 rfl ?_
        refine lv_istore_n (pc := 51) (lv' := [(1, .int (iv 1)), (0, .ref (ad 0))]) gX gB dM_weaken_51 rfl hl (by decide) rfl (fun ls hl => ?_)
        have cut52 : ∀ (n0 : Nat) (i : Int) (f2 : Int → Int) (ls : Array Slot) (H : Heap) (locs : List Loc), (1 ≤ i ∧ i ≤ ln + 1) → (STG ln (w2 f1) f1 i f2) → (RGK ln f2) → ((ln + 1 - i : Int).toNat < n0) → lv_has ls 5 [(0, .ref (ad 0)), (1, .int (iv i))] → va_P (dC, dI) vwCl (pM cI cZ cG cR ad th tb fi se lf ct ln tx kl kp fl fo ol ot pl ky nu yk yn lc fw f2 lw od) H → va_D A0 (pM cI cZ cG cR ad th tb fi se lf ct ln tx kl kp fl fo ol ot pl ky nu yk yn lc fw f2 lw od) → va_S A0 s0.heap H locs → W p0 l e0 R0 s0 m0 a0 b0 t0 c0 H locs 0 0 Q0 (F0 m0 52 ls []) := by
          intro n0
          induction n0 with
          | zero => intro i f2 ls H locs hi hg hr9 hm hl hP hD hS; exact absurd hm (Nat.not_lt_zero _)
          | succ n0 ih52 =>
            intro i f2 ls H locs hi hg hr9 hm52 hl hP hD hS
            refine lv_iload_n (pc := 52) gX gB dM_weaken_52 rfl (lv_at hl 1 rfl) ?_
            refine lv_aload_n (pc := 53) gX gB dM_weaken_53 rfl (lv_at hl 0 rfl) ?_
            refine va_get (pc := 54) (D := (dC, dI)) (ci := 5) (v := .int (iv ln)) (C := RM) (T := TM) (N := 24) gX gB hw0 inM hown hK hP 0 rfl rfl 6 (by decide) (hw0 _ q657) (fun _ h9 => h9) rfl dM_weaken_54 ?_
            refine jv_icmp_gt (pc := 57) (tgt := 102) gX gB dM_weaken_57 (by decide) (by omega) (by omega) (fun h2 => ?_) (fun h2 => ?_)
            · skip
              have E2 := stg_end hg (by omega) (BS_2 hn B1).2.2
              have B2 := BS_eq hn E2 (BS_2 hn B1).1
              clear hg hr9
              refine lv_iconst (pc := 102) (v := iv 1) gX gB dM_weaken_102 rfl ?_
              refine lv_istore_n (pc := 103) (lv' := [(1, .int (iv 1)), (0, .ref (ad 0))]) gX gB dM_weaken_103 rfl hl (by decide) rfl (fun ls hl => ?_)
              have cut104 : ∀ (n0 : Nat) (i : Int) (f3 : Int → Int) (ls : Array Slot) (H : Heap) (locs : List Loc), (1 ≤ i ∧ i ≤ ln + 1) → (STG ln (w3 f2) f2 i f3) → (RGK ln f3) → ((ln + 1 - i : Int).toNat < n0) → lv_has ls 5 [(0, .ref (ad 0)), (1, .int (iv i))] → va_P (dC, dI) vwCl (pM cI cZ cG cR ad th tb fi se lf ct ln tx kl kp fl fo ol ot pl ky nu yk yn lc fw f3 lw od) H → va_D A0 (pM cI cZ cG cR ad th tb fi se lf ct ln tx kl kp fl fo ol ot pl ky nu yk yn lc fw f3 lw od) → va_S A0 s0.heap H locs → W p0 l e0 R0 s0 m0 a0 b0 t0 c0 H locs 0 0 Q0 (F0 m0 104 ls []) := by
                intro n0
                induction n0 with
                | zero => intro i f3 ls H locs hi hg hr9 hm hl hP hD hS; exact absurd hm (Nat.not_lt_zero _)
                | succ n0 ih104 =>
                  intro i f3 ls H locs hi hg hr9 hm104 hl hP hD hS
                  refine lv_iload_n (pc := 104) gX gB dM_weaken_104 rfl (lv_at hl 1 rfl) ?_
                  refine lv_aload_n (pc := 105) gX gB dM_weaken_105 rfl (lv_at hl 0 rfl) ?_
                  refine va_get (pc := 106) (D := (dC, dI)) (ci := 5) (v := .int (iv ln)) (C := RM) (T := TM) (N := 24) gX gB hw0 inM hown hK hP 0 rfl rfl 6 (by decide) (hw0 _ q657) (fun _ h9 => h9) rfl dM_weaken_106 ?_
                  refine jv_icmp_gt (pc := 109) (tgt := 144) gX gB dM_weaken_109 (by decide) (by omega) (by omega) (fun h3 => ?_) (fun h3 => ?_)
                  · skip
                    have E3 := stg_end hg (by omega) (BS_3 hn B2).2.2
                    have B3 := BS_eq hn E3 (BS_3 hn B2).1
                    clear hg hr9
                    refine lv_iconst (pc := 144) (v := iv 1) gX gB dM_weaken_144 rfl ?_
                    refine lv_istore_n (pc := 145) (lv' := [(1, .int (iv 1)), (0, .ref (ad 0))]) gX gB dM_weaken_145 rfl hl (by decide) rfl (fun ls hl => ?_)
                    have cut146 : ∀ (n0 : Nat) (i : Int) (f4 : Int → Int) (ls : Array Slot) (H : Heap) (locs : List Loc), (1 ≤ i ∧ i ≤ ln + 1) → (STG ln (w4 f3) f3 i f4) → (RGK ln f4) → ((ln + 1 - i : Int).toNat < n0) → lv_has ls 5 [(0, .ref (ad 0)), (1, .int (iv i))] → va_P (dC, dI) vwCl (pM cI cZ cG cR ad th tb fi se lf ct ln tx kl kp fl fo ol ot pl ky nu yk yn lc fw f4 lw od) H → va_D A0 (pM cI cZ cG cR ad th tb fi se lf ct ln tx kl kp fl fo ol ot pl ky nu yk yn lc fw f4 lw od) → va_S A0 s0.heap H locs → W p0 l e0 R0 s0 m0 a0 b0 t0 c0 H locs 0 0 Q0 (F0 m0 146 ls []) := by
                      intro n0
                      induction n0 with
                      | zero => intro i f4 ls H locs hi hg hr9 hm hl hP hD hS; exact absurd hm (Nat.not_lt_zero _)
                      | succ n0 ih146 =>
                        intro i f4 ls H locs hi hg hr9 hm146 hl hP hD hS
                        refine lv_iload_n (pc := 146) gX gB dM_weaken_146 rfl (lv_at hl 1 rfl) ?_
                        refine lv_aload_n (pc := 147) gX gB dM_weaken_147 rfl (lv_at hl 0 rfl) ?_
                        refine va_get (pc := 148) (D := (dC, dI)) (ci := 5) (v := .int (iv ln)) (C := RM) (T := TM) (N := 24) gX gB hw0 inM hown hK hP 0 rfl rfl 6 (by decide) (hw0 _ q657) (fun _ h9 => h9) rfl dM_weaken_148 ?_
                        refine jv_icmp_gt (pc := 151) (tgt := 260) gX gB dM_weaken_151 (by decide) (by omega) (by omega) (fun h4 => ?_) (fun h4 => ?_)
                        · skip
                          have E4 := stg_end hg (by omega) (BS_4 hn B3).2.2
                          have B4 := BS_eq hn E4 (BS_4 hn B3).1
                          clear hg hr9
                          refine lv_aload_n (pc := 260) gX gB dM_weaken_260 rfl (lv_at hl 0 rfl) ?_
                          refine jv_rv (pc := 261) (wr := []) (wn := fun u : (Int → Int) => (pM cI cZ cG cR ad th tb fi se lf ct ln tx kl kp fl fo ol ot pl ky nu yk yn lc fw u lw od)) (va_runV (rest := []) ⟨gX, gB, hml, hown, hw0⟩ (c_M_units l dC dI cI cZ cG cR ad th tb fi se lf ct ln tx kl kp fl fo ol ot pl ky nu yk yn lc fw f4 lw od _  (by omega) (by exact B4)) (jcV hw0 kM_units q888 rfl rfl ⟨Nat.le_trans (Nat.le_of_ble_eq_true rfl) hRf, Nat.le_trans (Nat.le_of_ble_eq_true rfl) hRl⟩) (jv_preV (ci := 5) (q0 := 0) hK hP hD [0, 1, 2, 3, 4, 5, 6, 7, 8, 9, 10, 11, 12, 13, 14, 15, 16, 17, 18] rfl (by decide) rfl rfl) rfl rfl hl.1 rfl (lv_room (Nat.le_of_ble_eq_true rfl)) dM_weaken_261 ⟨Nat.zero_le _, Nat.zero_le _⟩) hP hD hS hA [0, 1, 2, 3, 4, 5, 6, 7, 8, 9, 10, 11, 12, 13, 14, 15, 16, 17, 18] [] [0, 1, 2, 3, 4, 5, 6, 7, 8, 9, 10, 11, 12, 13, 14, 15, 16, 17, 18] rfl rfl (by decide) (by decide) (by decide) (fun _ => rfl) (fun u H locs hw261 hP hD hS => ?_)
                          obtain ⟨sd_261, hu⟩ : ∃ z, z = u := ⟨_, rfl⟩; subst hu
                          have B5 := BS_eq hn hw261 (BS_5 hn B4).1
                          refine lv_iconst (pc := 264) (v := iv 1) gX gB dM_weaken_264 rfl ?_
                          refine lv_istore_n (pc := 265) (lv' := [(1, .int (iv 1)), (0, .ref (ad 0))]) gX gB dM_weaken_265 rfl hl (by decide) rfl (fun ls hl => ?_)
                          have cut266 : ∀ (n0 : Nat) (i : Int) (f6 : Int → Int) (ls : Array Slot) (H : Heap) (locs : List Loc), (1 ≤ i ∧ i ≤ ln + 1) → (STG ln (w6 sd_261) sd_261 i f6) → (RGK ln f6) → ((ln + 1 - i : Int).toNat < n0) → lv_has ls 5 [(0, .ref (ad 0)), (1, .int (iv i))] → va_P (dC, dI) vwCl (pM cI cZ cG cR ad th tb fi se lf ct ln tx kl kp fl fo ol ot pl ky nu yk yn lc fw f6 lw od) H → va_D A0 (pM cI cZ cG cR ad th tb fi se lf ct ln tx kl kp fl fo ol ot pl ky nu yk yn lc fw f6 lw od) → va_S A0 s0.heap H locs → W p0 l e0 R0 s0 m0 a0 b0 t0 c0 H locs 0 0 Q0 (F0 m0 266 ls []) := by
                            intro n0
                            induction n0 with
                            | zero => intro i f6 ls H locs hi hg hr9 hm hl hP hD hS; exact absurd hm (Nat.not_lt_zero _)
                            | succ n0 ih266 =>
                              intro i f6 ls H locs hi hg hr9 hm266 hl hP hD hS
                              refine lv_iload_n (pc := 266) gX gB dM_weaken_266 rfl (lv_at hl 1 rfl) ?_
                              refine lv_aload_n (pc := 267) gX gB dM_weaken_267 rfl (lv_at hl 0 rfl) ?_
                              refine va_get (pc := 268) (D := (dC, dI)) (ci := 5) (v := .int (iv ln)) (C := RM) (T := TM) (N := 24) gX gB hw0 inM hown hK hP 0 rfl rfl 6 (by decide) (hw0 _ q657) (fun _ h9 => h9) rfl dM_weaken_268 ?_
                              refine jv_icmp_gt (pc := 271) (tgt := 328) gX gB dM_weaken_271 (by decide) (by omega) (by omega) (fun h5 => ?_) (fun h5 => ?_)
                              · skip
                                have E6 := stg_end hg (by omega) (BS_6 hn B5).2.2
                                have B6 := BS_eq hn E6 (BS_6 hn B5).1
                                clear hg hr9
                                refine lv_iconst (pc := 328) (v := iv 1) gX gB dM_weaken_328 rfl ?_
                                refine lv_istore_n (pc := 329) (lv' := [(1, .int (iv 1)), (0, .ref (ad 0))]) gX gB dM_weaken_329 rfl hl (by decide) rfl (fun ls hl => ?_)
                                have cut330 : ∀ (n0 : Nat) (i : Int) (f7 : Int → Int) (ls : Array Slot) (H : Heap) (locs : List Loc), (1 ≤ i ∧ i ≤ ln + 1) → (STG ln (w7 f6) f6 i f7) → (RGK ln f7) → ((ln + 1 - i : Int).toNat < n0) → lv_has ls 5 [(0, .ref (ad 0)), (1, .int (iv i))] → va_P (dC, dI) vwCl (pM cI cZ cG cR ad th tb fi se lf ct ln tx kl kp fl fo ol ot pl ky nu yk yn lc fw f7 lw od) H → va_D A0 (pM cI cZ cG cR ad th tb fi se lf ct ln tx kl kp fl fo ol ot pl ky nu yk yn lc fw f7 lw od) → va_S A0 s0.heap H locs → W p0 l e0 R0 s0 m0 a0 b0 t0 c0 H locs 0 0 Q0 (F0 m0 330 ls []) := by
                                  intro n0
                                  induction n0 with
                                  | zero => intro i f7 ls H locs hi hg hr9 hm hl hP hD hS; exact absurd hm (Nat.not_lt_zero _)
                                  | succ n0 ih330 =>
                                    intro i f7 ls H locs hi hg hr9 hm330 hl hP hD hS
                                    refine lv_iload_n (pc := 330) gX gB dM_weaken_330 rfl (lv_at hl 1 rfl) ?_
                                    refine lv_aload_n (pc := 331) gX gB dM_weaken_331 rfl (lv_at hl 0 rfl) ?_
                                    refine va_get (pc := 332) (D := (dC, dI)) (ci := 5) (v := .int (iv ln)) (C := RM) (T := TM) (N := 24) gX gB hw0 inM hown hK hP 0 rfl rfl 6 (by decide) (hw0 _ q657) (fun _ h9 => h9) rfl dM_weaken_332 ?_
                                    refine jv_icmp_gt (pc := 335) (tgt := 378) gX gB dM_weaken_335 (by decide) (by omega) (by omega) (fun h6 => ?_) (fun h6 => ?_)
                                    · skip
                                      exact hret (f7) dM_weaken_378 (by have E7 := stg_end hg (by omega) (BS_7 hn B6).2.2; unfold wk; exact E7.trans (EqR_7 (E6.trans (EqR_6 (hw261.trans (EqR_5 (E4.trans (EqR_4 (E3.trans (EqR_3 (E2.trans (EqR_2 E1)))) B3.2.1)))))))) hP hD hS
                                    have a1 := hg.2 i (by omega) (by omega)
                                    have a2 := hg.1 (i - 1) (by omega) (by omega)
                                    have a3 := hr9 i (by omega) (by omega)
                                    have a4 := hr9 (i - 1) (by omega) (by omega)
                                    have z0 : f7 0 = 0 ∨ f7 0 = 1 := by rw [hg.1 0 (by omega) (by omega), ← (BS_7 hn B6).2.1]; exact B6.1
                                    have a5 := stg_st hg (by omega) stf_w7
                                    refine lv_aload_n (pc := 338) gX gB dM_weaken_338 rfl (lv_at hl 0 rfl) ?_
                                    refine va_get (pc := 339) (D := (dC, dI)) (ci := 5) (v := .ref (ad 21)) (C := RM) (T := TM) (N := 24) gX gB hw0 inM hown hK hP 0 rfl rfl 21 (by decide) (hw0 _ q672) (fun _ h9 => h9) rfl dM_weaken_339 ?_
                                    refine lv_iload_n (pc := 342) gX gB dM_weaken_342 rfl (lv_at hl 1 rfl) ?_
                                    have cut371 : ∀ (v : Int) (ls : Array Slot) (H : Heap) (locs : List Loc), (v = w7 f6 i) → (0 ≤ v ∧ v ≤ 11) → lv_has ls 5 [(0, .ref (ad 0)), (1, .int (iv i))] → va_P (dC, dI) vwCl (pM cI cZ cG cR ad th tb fi se lf ct ln tx kl kp fl fo ol ot pl ky nu yk yn lc fw f7 lw od) H → va_D A0 (pM cI cZ cG cR ad th tb fi se lf ct ln tx kl kp fl fo ol ot pl ky nu yk yn lc fw f7 lw od) → va_S A0 s0.heap H locs → W p0 l e0 R0 s0 m0 a0 b0 t0 c0 H locs 0 0 Q0 (F0 m0 371 ls [.int (iv v), .int (iv i), .ref (ad 21)]) := by
                                      intro v ls H locs hv9 hvr hl hP hD hS
                                      refine jv_iast (pc := 371) (ws' := (pM cI cZ cG cR ad th tb fi se lf ct ln tx kl kp fl fo ol ot pl ky nu yk yn lc fw (uI f7 i v) lw od)) gX gB hK hP hD hS 16 0 rfl rfl (by decide) (by omega) dM_weaken_371 rfl (fun H locs hP hD hS => ?_)
                                      refine jv_iinc (pc := 372) (k := 1) (x := i) (n := 1) (lv' := [(1, .int (iv (i + 1))), (0, .ref (ad 0))]) gX gB dM_weaken_372 hl rfl (by decide) rfl (fun ls hl => ?_)
                                      refine lv_goto (pc := 375) (tgt := 330) gX gB dM_weaken_375 (by decide) ?_
                                      exact ih330 (i + 1) (uI f7 i v) _ _ _ (by omega) (by exact stg_up hg hv9) (by exact RGK_up hr9 hvr) (by omega) (lv_sub hl [1, 0] rfl) hP hD hS
                                    refine lv_aload_n (pc := 343) gX gB dM_weaken_343 rfl (lv_at hl 0 rfl) ?_
                                    refine va_get (pc := 344) (D := (dC, dI)) (ci := 5) (v := .ref (ad 21)) (C := RM) (T := TM) (N := 24) gX gB hw0 inM hown hK hP 0 rfl rfl 21 (by decide) (hw0 _ q672) (fun _ h9 => h9) rfl dM_weaken_344 ?_
                                    refine lv_iload_n (pc := 347) gX gB dM_weaken_347 rfl (lv_at hl 1 rfl) ?_
                                    refine jv_iald (pc := 348) gX gB hK hP 16 0 rfl rfl (by decide) (by omega) dM_weaken_348 ?_
                                    refine lv_iconst (pc := 349) (v := iv 3) gX gB dM_weaken_349 rfl ?_
                                    refine jv_icmp_ne (pc := 350) (tgt := 365) gX gB dM_weaken_350 (by decide) (by omega) (by decide) (fun h7 => ?_) (fun h7 => ?_)
                                    · skip
                                      refine lv_aload_n (pc := 365) gX gB dM_weaken_365 rfl (lv_at hl 0 rfl) ?_
                                      refine va_get (pc := 366) (D := (dC, dI)) (ci := 5) (v := .ref (ad 21)) (C := RM) (T := TM) (N := 24) gX gB hw0 inM hown hK hP 0 rfl rfl 21 (by decide) (hw0 _ q672) (fun _ h9 => h9) rfl dM_weaken_366 ?_
                                      refine lv_iload_n (pc := 369) gX gB dM_weaken_369 rfl (lv_at hl 1 rfl) ?_
                                      refine jv_iald (pc := 370) gX gB hK hP 16 0 rfl rfl (by decide) (by omega) dM_weaken_370 ?_
                                      exact cut371 (f7 i) _ _ _ (by unfold w7; rw [if_neg (fun z => by omega)]; exact a1) (by omega) hl hP hD hS
                                    refine lv_aload_n (pc := 353) gX gB dM_weaken_353 rfl (lv_at hl 0 rfl) ?_
                                    refine lv_iload_n (pc := 354) gX gB dM_weaken_354 rfl (lv_at hl 1 rfl) ?_
                                    refine jv_ri (pc := 355) (wr := []) (wn := fun u : Int => (pM cI cZ cG cR ad th tb fi se lf ct ln tx kl kp fl fo ol ot pl ky nu yk yn lc fw f7 lw od)) (va_runV (rest := [.int (iv i), .ref (ad 21)]) ⟨gX, gB, hml, hown, hw0⟩ (c_M_nearest l dC dI cI cZ cG cR ad th tb fi se lf ct ln tx kl kp fl fo ol ot pl ky nu yk yn lc fw f7 lw od _ i (by omega) (by exact z0) (by exact fun j a b => hr9 j a (by omega))) (jcV hw0 kM_nearest q884 rfl rfl ⟨Nat.le_trans (Nat.le_of_ble_eq_true rfl) hRf, Nat.le_trans (Nat.le_of_ble_eq_true rfl) hRl⟩) (jv_preV (ci := 5) (q0 := 0) hK hP hD [0, 1, 2, 3, 4, 5, 6, 7, 8, 9, 10, 11, 12, 13, 14, 15, 16, 17, 18] rfl (by decide) rfl rfl) rfl rfl hl.1 rfl (lv_room (Nat.le_of_ble_eq_true rfl)) dM_weaken_355 ⟨Nat.zero_le _, Nat.zero_le _⟩) hP hD hS hA [0, 1, 2, 3, 4, 5, 6, 7, 8, 9, 10, 11, 12, 13, 14, 15, 16, 17, 18] [] [0, 1, 2, 3, 4, 5, 6, 7, 8, 9, 10, 11, 12, 13, 14, 15, 16, 17, 18] rfl rfl (by decide) (by decide) (by decide) (fun _ => rfl) (fun r0 u H locs hw355 hP hD hS => ?_)
                                    obtain ⟨r_355, hu⟩ : ∃ z, z = u := ⟨_, rfl⟩; subst hu
                                    obtain ⟨rfl, hw355⟩ := hw355
                                    refine jv_if_ne (pc := 358) (tgt := 365) gX gB dM_weaken_358 (by decide) (by omega) (fun h8 => ?_) (fun h8 => ?_)
                                    · skip
                                      refine lv_aload_n (pc := 365) gX gB dM_weaken_365 rfl (lv_at hl 0 rfl) ?_
                                      refine va_get (pc := 366) (D := (dC, dI)) (ci := 5) (v := .ref (ad 21)) (C := RM) (T := TM) (N := 24) gX gB hw0 inM hown hK hP 0 rfl rfl 21 (by decide) (hw0 _ q672) (fun _ h9 => h9) rfl dM_weaken_366 ?_
                                      refine lv_iload_n (pc := 369) gX gB dM_weaken_369 rfl (lv_at hl 1 rfl) ?_
                                      refine jv_iald (pc := 370) gX gB hK hP 16 0 rfl rfl (by decide) (by omega) dM_weaken_370 ?_
                                      exact cut371 (f7 i) _ _ _ (by unfold w7; rw [if_neg (fun z => by omega)]; exact a1) (by omega) hl hP hD hS
                                    refine lv_iconst (pc := 361) (v := iv 0) gX gB dM_weaken_361 rfl ?_
                                    refine lv_goto (pc := 362) (tgt := 371) gX gB dM_weaken_362 (by decide) ?_
                                    exact cut371 0 _ _ _ (by unfold w7; rw [if_pos ⟨by omega, by omega, by omega⟩]) (by omega) hl hP hD hS
                                exact cut330 (((ln + 1 - 1 : Int).toNat) + 1) 1 f6 _ _ _ (by omega) (by exact stg_0 (BS_7 hn B6).2.1) (by exact B6.2.2) (Nat.lt_succ_self _) (lv_sub hl [1, 0] rfl) hP hD hS
                              have a1 := hg.2 i (by omega) (by omega)
                              have a2 := hg.1 (i - 1) (by omega) (by omega)
                              have a3 := hr9 i (by omega) (by omega)
                              have a4 := hr9 (i - 1) (by omega) (by omega)
                              refine lv_aload_n (pc := 274) gX gB dM_weaken_274 rfl (lv_at hl 0 rfl) ?_
                              refine va_get (pc := 275) (D := (dC, dI)) (ci := 5) (v := .ref (ad 21)) (C := RM) (T := TM) (N := 24) gX gB hw0 inM hown hK hP 0 rfl rfl 21 (by decide) (hw0 _ q672) (fun _ h9 => h9) rfl dM_weaken_275 ?_
                              refine lv_iload_n (pc := 278) gX gB dM_weaken_278 rfl (lv_at hl 1 rfl) ?_
                              have cut321 : ∀ (v : Int) (ls : Array Slot) (H : Heap) (locs : List Loc), (v = w6 sd_261 i) → (0 ≤ v ∧ v ≤ 11) → lv_has ls 5 [(0, .ref (ad 0)), (1, .int (iv i))] → va_P (dC, dI) vwCl (pM cI cZ cG cR ad th tb fi se lf ct ln tx kl kp fl fo ol ot pl ky nu yk yn lc fw f6 lw od) H → va_D A0 (pM cI cZ cG cR ad th tb fi se lf ct ln tx kl kp fl fo ol ot pl ky nu yk yn lc fw f6 lw od) → va_S A0 s0.heap H locs → W p0 l e0 R0 s0 m0 a0 b0 t0 c0 H locs 0 0 Q0 (F0 m0 321 ls [.int (iv v), .int (iv i), .ref (ad 21)]) := by
                                intro v ls H locs hv9 hvr hl hP hD hS
                                refine jv_iast (pc := 321) (ws' := (pM cI cZ cG cR ad th tb fi se lf ct ln tx kl kp fl fo ol ot pl ky nu yk yn lc fw (uI f6 i v) lw od)) gX gB hK hP hD hS 16 0 rfl rfl (by decide) (by omega) dM_weaken_321 rfl (fun H locs hP hD hS => ?_)
                                refine jv_iinc (pc := 322) (k := 1) (x := i) (n := 1) (lv' := [(1, .int (iv (i + 1))), (0, .ref (ad 0))]) gX gB dM_weaken_322 hl rfl (by decide) rfl (fun ls hl => ?_)
                                refine lv_goto (pc := 325) (tgt := 266) gX gB dM_weaken_325 (by decide) ?_
                                exact ih266 (i + 1) (uI f6 i v) _ _ _ (by omega) (by exact stg_up hg hv9) (by exact RGK_up hr9 hvr) (by omega) (lv_sub hl [1, 0] rfl) hP hD hS
                              refine lv_aload_n (pc := 279) gX gB dM_weaken_279 rfl (lv_at hl 0 rfl) ?_
                              refine va_get (pc := 280) (D := (dC, dI)) (ci := 5) (v := .ref (ad 21)) (C := RM) (T := TM) (N := 24) gX gB hw0 inM hown hK hP 0 rfl rfl 21 (by decide) (hw0 _ q672) (fun _ h9 => h9) rfl dM_weaken_280 ?_
                              refine lv_iload_n (pc := 283) gX gB dM_weaken_283 rfl (lv_at hl 1 rfl) ?_
                              refine jv_iald (pc := 284) gX gB hK hP 16 0 rfl rfl (by decide) (by omega) dM_weaken_284 ?_
                              refine lv_iconst (pc := 285) (v := iv 4) gX gB dM_weaken_285 rfl ?_
                              refine jv_icmp_eq (pc := 286) (tgt := 310) gX gB dM_weaken_286 (by decide) (by omega) (by decide) (fun h9 => ?_) (fun h9 => ?_)
                              · skip
                                refine lv_bipush (pc := 310) (v := iv 11) gX gB dM_weaken_310 (by decide) ?_
                                refine lv_goto (pc := 312) (tgt := 321) gX gB dM_weaken_312 (by decide) ?_
                                exact cut321 11 _ _ _ (by unfold w6; rw [if_pos (by omega)]) (by omega) hl hP hD hS
                              refine lv_aload_n (pc := 289) gX gB dM_weaken_289 rfl (lv_at hl 0 rfl) ?_
                              refine va_get (pc := 290) (D := (dC, dI)) (ci := 5) (v := .ref (ad 21)) (C := RM) (T := TM) (N := 24) gX gB hw0 inM hown hK hP 0 rfl rfl 21 (by decide) (hw0 _ q672) (fun _ h9 => h9) rfl dM_weaken_290 ?_
                              refine lv_iload_n (pc := 293) gX gB dM_weaken_293 rfl (lv_at hl 1 rfl) ?_
                              refine jv_iald (pc := 294) gX gB hK hP 16 0 rfl rfl (by decide) (by omega) dM_weaken_294 ?_
                              refine lv_iconst (pc := 295) (v := iv 5) gX gB dM_weaken_295 rfl ?_
                              refine jv_icmp_eq (pc := 296) (tgt := 310) gX gB dM_weaken_296 (by decide) (by omega) (by decide) (fun h10 => ?_) (fun h10 => ?_)
                              · skip
                                refine lv_bipush (pc := 310) (v := iv 11) gX gB dM_weaken_310 (by decide) ?_
                                refine lv_goto (pc := 312) (tgt := 321) gX gB dM_weaken_312 (by decide) ?_
                                exact cut321 11 _ _ _ (by unfold w6; rw [if_pos (by omega)]) (by omega) hl hP hD hS
                              refine lv_aload_n (pc := 299) gX gB dM_weaken_299 rfl (lv_at hl 0 rfl) ?_
                              refine va_get (pc := 300) (D := (dC, dI)) (ci := 5) (v := .ref (ad 21)) (C := RM) (T := TM) (N := 24) gX gB hw0 inM hown hK hP 0 rfl rfl 21 (by decide) (hw0 _ q672) (fun _ h9 => h9) rfl dM_weaken_300 ?_
                              refine lv_iload_n (pc := 303) gX gB dM_weaken_303 rfl (lv_at hl 1 rfl) ?_
                              refine jv_iald (pc := 304) gX gB hK hP 16 0 rfl rfl (by decide) (by omega) dM_weaken_304 ?_
                              refine lv_bipush (pc := 305) (v := iv 7) gX gB dM_weaken_305 (by decide) ?_
                              refine jv_icmp_ne (pc := 307) (tgt := 315) gX gB dM_weaken_307 (by decide) (by omega) (by decide) (fun h11 => ?_) (fun h11 => ?_)
                              · skip
                                refine lv_aload_n (pc := 315) gX gB dM_weaken_315 rfl (lv_at hl 0 rfl) ?_
                                refine va_get (pc := 316) (D := (dC, dI)) (ci := 5) (v := .ref (ad 21)) (C := RM) (T := TM) (N := 24) gX gB hw0 inM hown hK hP 0 rfl rfl 21 (by decide) (hw0 _ q672) (fun _ h9 => h9) rfl dM_weaken_316 ?_
                                refine lv_iload_n (pc := 319) gX gB dM_weaken_319 rfl (lv_at hl 1 rfl) ?_
                                refine jv_iald (pc := 320) gX gB hK hP 16 0 rfl rfl (by decide) (by omega) dM_weaken_320 ?_
                                exact cut321 (f6 i) _ _ _ (by unfold w6; rw [if_neg (by omega)]; exact a1) (by omega) hl hP hD hS
                              refine lv_bipush (pc := 310) (v := iv 11) gX gB dM_weaken_310 (by decide) ?_
                              refine lv_goto (pc := 312) (tgt := 321) gX gB dM_weaken_312 (by decide) ?_
                              exact cut321 11 _ _ _ (by unfold w6; rw [if_pos (by omega)]) (by omega) hl hP hD hS
                          exact cut266 (((ln + 1 - 1 : Int).toNat) + 1) 1 sd_261 _ _ _ (by omega) (by exact stg_0 (BS_6 hn B5).2.1) (by exact B5.2.2) (Nat.lt_succ_self _) (lv_sub hl [1, 0] rfl) hP hD hS
                        have a1 := hg.2 i (by omega) (by omega)
                        have a2 := hg.1 (i - 1) (by omega) (by omega)
                        have a3 := hr9 i (by omega) (by omega)
                        have a4 := hr9 (i - 1) (by omega) (by omega)
                        have a6 := hg.2 (i + 1) (by omega) (by omega)
                        have a7 := hr9 (i + 1) (by omega) (by omega)
                        refine lv_aload_n (pc := 154) gX gB dM_weaken_154 rfl (lv_at hl 0 rfl) ?_
                        refine va_get (pc := 155) (D := (dC, dI)) (ci := 5) (v := .ref (ad 21)) (C := RM) (T := TM) (N := 24) gX gB hw0 inM hown hK hP 0 rfl rfl 21 (by decide) (hw0 _ q672) (fun _ h9 => h9) rfl dM_weaken_155 ?_
                        refine lv_iload_n (pc := 158) gX gB dM_weaken_158 rfl (lv_at hl 1 rfl) ?_
                        refine lv_iconst (pc := 159) (v := iv 1) gX gB dM_weaken_159 rfl ?_
                        refine jv_isub (pc := 160) (x := i) (y := 1) gX gB dM_weaken_160 ?_
                        refine jv_iald (pc := 161) gX gB hK hP 16 0 rfl rfl (by decide) (by omega) dM_weaken_161 ?_
                        refine lv_istore_n (pc := 162) (lv' := [(2, .int (iv (f4 (i - 1)))), (0, .ref (ad 0)), (1, .int (iv i))]) gX gB dM_weaken_162 rfl hl (by decide) rfl (fun ls hl => ?_)
                        have cut180 : ∀ (bo : Int) (ls : Array Slot) (H : Heap) (locs : List Loc), ((bo = 1 ∧ f4 (i - 1) = f4 (i + 1)) ∨ (bo = 0 ∧ f4 (i - 1) ≠ f4 (i + 1))) → lv_has ls 5 [(0, .ref (ad 0)), (1, .int (iv i)), (2, .int (iv (f4 (i - 1))))] → va_P (dC, dI) vwCl (pM cI cZ cG cR ad th tb fi se lf ct ln tx kl kp fl fo ol ot pl ky nu yk yn lc fw f4 lw od) H → va_D A0 (pM cI cZ cG cR ad th tb fi se lf ct ln tx kl kp fl fo ol ot pl ky nu yk yn lc fw f4 lw od) → va_S A0 s0.heap H locs → W p0 l e0 R0 s0 m0 a0 b0 t0 c0 H locs 0 0 Q0 (F0 m0 180 ls [.int (iv bo)]) := by
                          intro bo ls H locs hbo hl hP hD hS
                          refine lv_istore_n (pc := 180) (lv' := [(3, .int (iv bo)), (0, .ref (ad 0)), (1, .int (iv i)), (2, .int (iv (f4 (i - 1))))]) gX gB dM_weaken_180 rfl hl (by decide) rfl (fun ls hl => ?_)
                          have rgb : -2147483648 ≤ bo ∧ bo < 2147483648 := by rcases hbo with z | z <;> (rw [z.1]; decide)
                          have cut231 : ∀ (is : Int) (ls : Array Slot) (H : Heap) (locs : List Loc), ((is = 1 ∧ (f4 (i - 1) = f4 (i + 1) ∧ ((f4 i = 4 ∧ f4 (i - 1) = 3) ∨ (f4 i = 7 ∧ (f4 (i - 1) = 3 ∨ f4 (i - 1) = 6))))) ∨ (is = 0 ∧ ¬ (f4 (i - 1) = f4 (i + 1) ∧ ((f4 i = 4 ∧ f4 (i - 1) = 3) ∨ (f4 i = 7 ∧ (f4 (i - 1) = 3 ∨ f4 (i - 1) = 6)))))) → lv_has ls 5 [(0, .ref (ad 0)), (1, .int (iv i)), (2, .int (iv (f4 (i - 1))))] → va_P (dC, dI) vwCl (pM cI cZ cG cR ad th tb fi se lf ct ln tx kl kp fl fo ol ot pl ky nu yk yn lc fw f4 lw od) H → va_D A0 (pM cI cZ cG cR ad th tb fi se lf ct ln tx kl kp fl fo ol ot pl ky nu yk yn lc fw f4 lw od) → va_S A0 s0.heap H locs → W p0 l e0 R0 s0 m0 a0 b0 t0 c0 H locs 0 0 Q0 (F0 m0 231 ls [.int (iv is)]) := by
                            intro is ls H locs his hl hP hD hS
                            refine lv_istore (pc := 231) (lv' := [(4, .int (iv is)), (0, .ref (ad 0)), (1, .int (iv i)), (2, .int (iv (f4 (i - 1))))]) gX gB dM_weaken_231 hl (by decide) rfl (fun ls hl => ?_)
                            have rgs : -2147483648 ≤ is ∧ is < 2147483648 := by rcases his with z | z <;> (rw [z.1]; decide)
                            refine lv_aload_n (pc := 233) gX gB dM_weaken_233 rfl (lv_at hl 1 rfl) ?_
                            refine va_get (pc := 234) (D := (dC, dI)) (ci := 5) (v := .ref (ad 21)) (C := RM) (T := TM) (N := 24) gX gB hw0 inM hown hK hP 0 rfl rfl 21 (by decide) (hw0 _ q672) (fun _ h9 => h9) rfl dM_weaken_234 ?_
                            refine lv_iload_n (pc := 237) gX gB dM_weaken_237 rfl (lv_at hl 2 rfl) ?_
                            have cut253 : ∀ (v : Int) (ls : Array Slot) (H : Heap) (locs : List Loc), (v = w4 f3 i) → (0 ≤ v ∧ v ≤ 11) → lv_has ls 5 [(0, .ref (ad 0)), (1, .int (iv i))] → va_P (dC, dI) vwCl (pM cI cZ cG cR ad th tb fi se lf ct ln tx kl kp fl fo ol ot pl ky nu yk yn lc fw f4 lw od) H → va_D A0 (pM cI cZ cG cR ad th tb fi se lf ct ln tx kl kp fl fo ol ot pl ky nu yk yn lc fw f4 lw od) → va_S A0 s0.heap H locs → W p0 l e0 R0 s0 m0 a0 b0 t0 c0 H locs 0 0 Q0 (F0 m0 253 ls [.int (iv v), .int (iv i), .ref (ad 21)]) := by
                              intro v ls H locs hv9 hvr hl hP hD hS
                              refine jv_iast (pc := 253) (ws' := (pM cI cZ cG cR ad th tb fi se lf ct ln tx kl kp fl fo ol ot pl ky nu yk yn lc fw (uI f4 i v) lw od)) gX gB hK hP hD hS 16 0 rfl rfl (by decide) (by omega) dM_weaken_253 rfl (fun H locs hP hD hS => ?_)
                              refine jv_iinc (pc := 254) (k := 1) (x := i) (n := 1) (lv' := [(1, .int (iv (i + 1))), (0, .ref (ad 0))]) gX gB dM_weaken_254 hl rfl (by decide) rfl (fun ls hl => ?_)
                              refine lv_goto (pc := 257) (tgt := 146) gX gB dM_weaken_257 (by decide) ?_
                              exact ih146 (i + 1) (uI f4 i v) _ _ _ (by omega) (by exact stg_up hg hv9) (by exact RGK_up hr9 hvr) (by omega) (lv_sub hl [1, 0] rfl) hP hD hS
                            refine lv_iload (pc := 238) gX gB dM_weaken_238 (lv_at hl 0 rfl) ?_
                            refine jv_if_eq (pc := 240) (tgt := 247) gX gB dM_weaken_240 (by decide) rgs (fun h12 => ?_) (fun h12 => ?_)
                            · skip
                              refine lv_aload_n (pc := 247) gX gB dM_weaken_247 rfl (lv_at hl 1 rfl) ?_
                              refine va_get (pc := 248) (D := (dC, dI)) (ci := 5) (v := .ref (ad 21)) (C := RM) (T := TM) (N := 24) gX gB hw0 inM hown hK hP 0 rfl rfl 21 (by decide) (hw0 _ q672) (fun _ h9 => h9) rfl dM_weaken_248 ?_
                              refine lv_iload_n (pc := 251) gX gB dM_weaken_251 rfl (lv_at hl 2 rfl) ?_
                              refine jv_iald (pc := 252) gX gB hK hP 16 0 rfl rfl (by decide) (by omega) dM_weaken_252 ?_
                              exact cut253 (f4 i) _ _ _ (by rw [w4_s (by omega), ← a2, ← a1, ← a6, if_neg (by rcases his with z | z; (exact absurd z.1 (by omega)); exact z.2)]) (by exact a3) (lv_sub hl [1, 2] rfl) hP hD hS
                            refine lv_iload_n (pc := 243) gX gB dM_weaken_243 rfl (lv_at hl 3 rfl) ?_
                            refine lv_goto (pc := 244) (tgt := 253) gX gB dM_weaken_244 (by decide) ?_
                            exact cut253 (f4 (i - 1)) _ _ _ (by rw [w4_s (by omega), ← a2, ← a1, ← a6, if_pos (by rcases his with z | z; exact z.2; exact absurd z.1 (by assumption))]) (by exact a4) (lv_sub hl [1, 2] rfl) hP hD hS
                          have cut230 : ∀ (ls : Array Slot) (H : Heap) (locs : List Loc), (¬ (f4 (i - 1) = f4 (i + 1) ∧ ((f4 i = 4 ∧ f4 (i - 1) = 3) ∨ (f4 i = 7 ∧ (f4 (i - 1) = 3 ∨ f4 (i - 1) = 6))))) → lv_has ls 5 [(0, .ref (ad 0)), (1, .int (iv i)), (2, .int (iv (f4 (i - 1)))), (3, .int (iv bo))] → va_P (dC, dI) vwCl (pM cI cZ cG cR ad th tb fi se lf ct ln tx kl kp fl fo ol ot pl ky nu yk yn lc fw f4 lw od) H → va_D A0 (pM cI cZ cG cR ad th tb fi se lf ct ln tx kl kp fl fo ol ot pl ky nu yk yn lc fw f4 lw od) → va_S A0 s0.heap H locs → W p0 l e0 R0 s0 m0 a0 b0 t0 c0 H locs 0 0 Q0 (F0 m0 230 ls []) := by
                            intro  ls H locs h230 hl hP hD hS
                            refine lv_iconst (pc := 230) (v := iv 0) gX gB dM_weaken_230 rfl ?_
                            exact cut231 0 _ _ _ (by exact Or.inr ⟨rfl, h230⟩) (lv_sub hl [0, 1, 2] rfl) hP hD hS
                          have cut226 : ∀ (ls : Array Slot) (H : Heap) (locs : List Loc), ((f4 (i - 1) = f4 (i + 1) ∧ ((f4 i = 4 ∧ f4 (i - 1) = 3) ∨ (f4 i = 7 ∧ (f4 (i - 1) = 3 ∨ f4 (i - 1) = 6))))) → lv_has ls 5 [(0, .ref (ad 0)), (1, .int (iv i)), (2, .int (iv (f4 (i - 1)))), (3, .int (iv bo))] → va_P (dC, dI) vwCl (pM cI cZ cG cR ad th tb fi se lf ct ln tx kl kp fl fo ol ot pl ky nu yk yn lc fw f4 lw od) H → va_D A0 (pM cI cZ cG cR ad th tb fi se lf ct ln tx kl kp fl fo ol ot pl ky nu yk yn lc fw f4 lw od) → va_S A0 s0.heap H locs → W p0 l e0 R0 s0 m0 a0 b0 t0 c0 H locs 0 0 Q0 (F0 m0 226 ls []) := by
                            intro  ls H locs h226 hl hP hD hS
                            refine lv_iconst (pc := 226) (v := iv 1) gX gB dM_weaken_226 rfl ?_
                            refine lv_goto (pc := 227) (tgt := 231) gX gB dM_weaken_227 (by decide) ?_
                            exact cut231 1 _ _ _ (by exact Or.inl ⟨rfl, h226⟩) (lv_sub hl [0, 1, 2] rfl) hP hD hS
                          have cut200 : ∀ (ls : Array Slot) (H : Heap) (locs : List Loc), (¬ (f4 (i - 1) = f4 (i + 1) ∧ f4 i = 4 ∧ f4 (i - 1) = 3)) → lv_has ls 5 [(0, .ref (ad 0)), (1, .int (iv i)), (2, .int (iv (f4 (i - 1)))), (3, .int (iv bo))] → va_P (dC, dI) vwCl (pM cI cZ cG cR ad th tb fi se lf ct ln tx kl kp fl fo ol ot pl ky nu yk yn lc fw f4 lw od) H → va_D A0 (pM cI cZ cG cR ad th tb fi se lf ct ln tx kl kp fl fo ol ot pl ky nu yk yn lc fw f4 lw od) → va_S A0 s0.heap H locs → W p0 l e0 R0 s0 m0 a0 b0 t0 c0 H locs 0 0 Q0 (F0 m0 200 ls []) := by
                            intro  ls H locs h200 hl hP hD hS
                            refine lv_aload_n (pc := 200) gX gB dM_weaken_200 rfl (lv_at hl 0 rfl) ?_
                            refine va_get (pc := 201) (D := (dC, dI)) (ci := 5) (v := .ref (ad 21)) (C := RM) (T := TM) (N := 24) gX gB hw0 inM hown hK hP 0 rfl rfl 21 (by decide) (hw0 _ q672) (fun _ h9 => h9) rfl dM_weaken_201 ?_
                            refine lv_iload_n (pc := 204) gX gB dM_weaken_204 rfl (lv_at hl 1 rfl) ?_
                            refine jv_iald (pc := 205) gX gB hK hP 16 0 rfl rfl (by decide) (by omega) dM_weaken_205 ?_
                            refine lv_bipush (pc := 206) (v := iv 7) gX gB dM_weaken_206 (by decide) ?_
                            refine jv_icmp_ne (pc := 208) (tgt := 230) gX gB dM_weaken_208 (by decide) (by omega) (by decide) (fun h13 => ?_) (fun h13 => ?_)
                            · skip
                              exact cut230  _ _ _ (by exact fun h => by rcases h with ⟨z1, ⟨z2, z3⟩ | ⟨z2, z3⟩⟩; exact h200 ⟨z1, z2, z3⟩; exact absurd z2 (by assumption)) hl hP hD hS
                            refine lv_iload_n (pc := 211) gX gB dM_weaken_211 rfl (lv_at hl 3 rfl) ?_
                            refine jv_if_eq (pc := 212) (tgt := 230) gX gB dM_weaken_212 (by decide) rgb (fun h14 => ?_) (fun h14 => ?_)
                            · skip
                              exact cut230  _ _ _ (by exact fun h => by rcases hbo with z | z; omega; exact z.2 h.1) hl hP hD hS
                            refine lv_iload_n (pc := 215) gX gB dM_weaken_215 rfl (lv_at hl 2 rfl) ?_
                            refine lv_iconst (pc := 216) (v := iv 3) gX gB dM_weaken_216 rfl ?_
                            refine jv_icmp_eq (pc := 217) (tgt := 226) gX gB dM_weaken_217 (by decide) (by omega) (by decide) (fun h15 => ?_) (fun h15 => ?_)
                            · skip
                              exact cut226  _ _ _ (by exact ⟨by rcases hbo with z | z; exact z.2; exact absurd z.1 (by assumption), Or.inr ⟨by assumption, Or.inl (by assumption)⟩⟩) hl hP hD hS
                            refine lv_iload_n (pc := 220) gX gB dM_weaken_220 rfl (lv_at hl 2 rfl) ?_
                            refine lv_bipush (pc := 221) (v := iv 6) gX gB dM_weaken_221 (by decide) ?_
                            refine jv_icmp_ne (pc := 223) (tgt := 230) gX gB dM_weaken_223 (by decide) (by omega) (by decide) (fun h16 => ?_) (fun h16 => ?_)
                            · skip
                              exact cut230  _ _ _ (by exact fun h => by rcases h with ⟨z1, ⟨z2, z3⟩ | ⟨z2, z3⟩⟩; exact h200 ⟨z1, z2, z3⟩; (rcases z3 with z3 | z3; exact absurd z3 (by assumption); exact absurd z3 (by assumption))) hl hP hD hS
                            exact cut226  _ _ _ (by exact ⟨by rcases hbo with z | z; exact z.2; exact absurd z.1 (by assumption), Or.inr ⟨by assumption, Or.inr (by assumption)⟩⟩) hl hP hD hS
                          refine lv_aload_n (pc := 181) gX gB dM_weaken_181 rfl (lv_at hl 1 rfl) ?_
                          refine va_get (pc := 182) (D := (dC, dI)) (ci := 5) (v := .ref (ad 21)) (C := RM) (T := TM) (N := 24) gX gB hw0 inM hown hK hP 0 rfl rfl 21 (by decide) (hw0 _ q672) (fun _ h9 => h9) rfl dM_weaken_182 ?_
                          refine lv_iload_n (pc := 185) gX gB dM_weaken_185 rfl (lv_at hl 2 rfl) ?_
                          refine jv_iald (pc := 186) gX gB hK hP 16 0 rfl rfl (by decide) (by omega) dM_weaken_186 ?_
                          refine lv_iconst (pc := 187) (v := iv 4) gX gB dM_weaken_187 rfl ?_
                          refine jv_icmp_ne (pc := 188) (tgt := 200) gX gB dM_weaken_188 (by decide) (by omega) (by decide) (fun h17 => ?_) (fun h17 => ?_)
                          · skip
                            exact cut200  _ _ _ (by exact fun h => absurd h.2.1 (by assumption)) (lv_sub hl [1, 2, 3, 0] rfl) hP hD hS
                          refine lv_iload_n (pc := 191) gX gB dM_weaken_191 rfl (lv_at hl 0 rfl) ?_
                          refine jv_if_eq (pc := 192) (tgt := 200) gX gB dM_weaken_192 (by decide) rgb (fun h18 => ?_) (fun h18 => ?_)
                          · skip
                            exact cut200  _ _ _ (by exact fun h => by rcases hbo with z | z; omega; exact z.2 h.1) (lv_sub hl [1, 2, 3, 0] rfl) hP hD hS
                          refine lv_iload_n (pc := 195) gX gB dM_weaken_195 rfl (lv_at hl 3 rfl) ?_
                          refine lv_iconst (pc := 196) (v := iv 3) gX gB dM_weaken_196 rfl ?_
                          refine jv_icmp_eq (pc := 197) (tgt := 226) gX gB dM_weaken_197 (by decide) (by omega) (by decide) (fun h19 => ?_) (fun h19 => ?_)
                          · skip
                            exact cut226  _ _ _ (by exact ⟨by rcases hbo with z | z; exact z.2; exact absurd z.1 (by assumption), Or.inl ⟨by assumption, by assumption⟩⟩) (lv_sub hl [1, 2, 3, 0] rfl) hP hD hS
                          exact cut200  _ _ _ (by exact fun h => absurd h.2.2 (by assumption)) (lv_sub hl [1, 2, 3, 0] rfl) hP hD hS
                        refine lv_iload_n (pc := 163) gX gB dM_weaken_163 rfl (lv_at hl 0 rfl) ?_
                        refine lv_aload_n (pc := 164) gX gB dM_weaken_164 rfl (lv_at hl 1 rfl) ?_
                        refine va_get (pc := 165) (D := (dC, dI)) (ci := 5) (v := .ref (ad 21)) (C := RM) (T := TM) (N := 24) gX gB hw0 inM hown hK hP 0 rfl rfl 21 (by decide) (hw0 _ q672) (fun _ h9 => h9) rfl dM_weaken_165 ?_
                        refine lv_iload_n (pc := 168) gX gB dM_weaken_168 rfl (lv_at hl 2 rfl) ?_
                        refine lv_iconst (pc := 169) (v := iv 1) gX gB dM_weaken_169 rfl ?_
                        refine jv_iadd (pc := 170) (x := i) (y := 1) gX gB dM_weaken_170 ?_
                        refine jv_iald (pc := 171) gX gB hK hP 16 0 rfl rfl (by decide) (by omega) dM_weaken_171 ?_
                        refine jv_icmp_ne (pc := 172) (tgt := 179) gX gB dM_weaken_172 (by decide) (by omega) (by omega) (fun h20 => ?_) (fun h20 => ?_)
                        · skip
                          refine lv_iconst (pc := 179) (v := iv 0) gX gB dM_weaken_179 rfl ?_
                          exact cut180 0 _ _ _ (by exact Or.inr ⟨rfl, by assumption⟩) (lv_sub hl [1, 2, 0] rfl) hP hD hS
                        refine lv_iconst (pc := 175) (v := iv 1) gX gB dM_weaken_175 rfl ?_
                        refine lv_goto (pc := 176) (tgt := 180) gX gB dM_weaken_176 (by decide) ?_
                        exact cut180 1 _ _ _ (by exact Or.inl ⟨rfl, by assumption⟩) (lv_sub hl [1, 2, 0] rfl) hP hD hS
                    exact cut146 (((ln + 1 - 1 : Int).toNat) + 1) 1 f3 _ _ _ (by omega) (by exact stg_0 (BS_4 hn B3).2.1) (by exact B3.2.2) (Nat.lt_succ_self _) (lv_sub hl [1, 0] rfl) hP hD hS
                  have a1 := hg.2 i (by omega) (by omega)
                  have a2 := hg.1 (i - 1) (by omega) (by omega)
                  have a3 := hr9 i (by omega) (by omega)
                  have a4 := hr9 (i - 1) (by omega) (by omega)
                  refine lv_aload_n (pc := 112) gX gB dM_weaken_112 rfl (lv_at hl 0 rfl) ?_
                  refine va_get (pc := 113) (D := (dC, dI)) (ci := 5) (v := .ref (ad 21)) (C := RM) (T := TM) (N := 24) gX gB hw0 inM hown hK hP 0 rfl rfl 21 (by decide) (hw0 _ q672) (fun _ h9 => h9) rfl dM_weaken_113 ?_
                  refine lv_iload_n (pc := 116) gX gB dM_weaken_116 rfl (lv_at hl 1 rfl) ?_
                  have cut137 : ∀ (v : Int) (ls : Array Slot) (H : Heap) (locs : List Loc), (v = w3 f2 i) → (0 ≤ v ∧ v ≤ 11) → lv_has ls 5 [(0, .ref (ad 0)), (1, .int (iv i))] → va_P (dC, dI) vwCl (pM cI cZ cG cR ad th tb fi se lf ct ln tx kl kp fl fo ol ot pl ky nu yk yn lc fw f3 lw od) H → va_D A0 (pM cI cZ cG cR ad th tb fi se lf ct ln tx kl kp fl fo ol ot pl ky nu yk yn lc fw f3 lw od) → va_S A0 s0.heap H locs → W p0 l e0 R0 s0 m0 a0 b0 t0 c0 H locs 0 0 Q0 (F0 m0 137 ls [.int (iv v), .int (iv i), .ref (ad 21)]) := by
                    intro v ls H locs hv9 hvr hl hP hD hS
                    refine jv_iast (pc := 137) (ws' := (pM cI cZ cG cR ad th tb fi se lf ct ln tx kl kp fl fo ol ot pl ky nu yk yn lc fw (uI f3 i v) lw od)) gX gB hK hP hD hS 16 0 rfl rfl (by decide) (by omega) dM_weaken_137 rfl (fun H locs hP hD hS => ?_)
                    refine jv_iinc (pc := 138) (k := 1) (x := i) (n := 1) (lv' := [(1, .int (iv (i + 1))), (0, .ref (ad 0))]) gX gB dM_weaken_138 hl rfl (by decide) rfl (fun ls hl => ?_)
                    refine lv_goto (pc := 141) (tgt := 104) gX gB dM_weaken_141 (by decide) ?_
                    exact ih104 (i + 1) (uI f3 i v) _ _ _ (by omega) (by exact stg_up hg hv9) (by exact RGK_up hr9 hvr) (by omega) (lv_sub hl [1, 0] rfl) hP hD hS
                  refine lv_aload_n (pc := 117) gX gB dM_weaken_117 rfl (lv_at hl 0 rfl) ?_
                  refine va_get (pc := 118) (D := (dC, dI)) (ci := 5) (v := .ref (ad 21)) (C := RM) (T := TM) (N := 24) gX gB hw0 inM hown hK hP 0 rfl rfl 21 (by decide) (hw0 _ q672) (fun _ h9 => h9) rfl dM_weaken_118 ?_
                  refine lv_iload_n (pc := 121) gX gB dM_weaken_121 rfl (lv_at hl 1 rfl) ?_
                  refine jv_iald (pc := 122) gX gB hK hP 16 0 rfl rfl (by decide) (by omega) dM_weaken_122 ?_
                  refine lv_iconst (pc := 123) (v := iv 2) gX gB dM_weaken_123 rfl ?_
                  refine jv_icmp_ne (pc := 124) (tgt := 131) gX gB dM_weaken_124 (by decide) (by omega) (by decide) (fun h21 => ?_) (fun h21 => ?_)
                  · skip
                    refine lv_aload_n (pc := 131) gX gB dM_weaken_131 rfl (lv_at hl 0 rfl) ?_
                    refine va_get (pc := 132) (D := (dC, dI)) (ci := 5) (v := .ref (ad 21)) (C := RM) (T := TM) (N := 24) gX gB hw0 inM hown hK hP 0 rfl rfl 21 (by decide) (hw0 _ q672) (fun _ h9 => h9) rfl dM_weaken_132 ?_
                    refine lv_iload_n (pc := 135) gX gB dM_weaken_135 rfl (lv_at hl 1 rfl) ?_
                    refine jv_iald (pc := 136) gX gB hK hP 16 0 rfl rfl (by decide) (by omega) dM_weaken_136 ?_
                    exact cut137 (f3 i) _ _ _ (by unfold w3; rw [if_neg (by omega)]; exact a1) (by omega) hl hP hD hS
                  refine lv_iconst (pc := 127) (v := iv 1) gX gB dM_weaken_127 rfl ?_
                  refine lv_goto (pc := 128) (tgt := 137) gX gB dM_weaken_128 (by decide) ?_
                  exact cut137 1 _ _ _ (by unfold w3; rw [if_pos (by omega)]) (by omega) hl hP hD hS
              exact cut104 (((ln + 1 - 1 : Int).toNat) + 1) 1 f2 _ _ _ (by omega) (by exact stg_0 (BS_3 hn B2).2.1) (by exact B2.2.2) (Nat.lt_succ_self _) (lv_sub hl [1, 0] rfl) hP hD hS
            have a1 := hg.2 i (by omega) (by omega)
            have a2 := hg.1 (i - 1) (by omega) (by omega)
            have a3 := hr9 i (by omega) (by omega)
            have a4 := hr9 (i - 1) (by omega) (by omega)
            have z0 : f2 0 = 0 ∨ f2 0 = 1 := by rw [hg.1 0 (by omega) (by omega), ← (BS_2 hn B1).2.1]; exact B1.1
            have a5 := stg_st hg (by omega) stf_w2
            refine lv_aload_n (pc := 60) gX gB dM_weaken_60 rfl (lv_at hl 0 rfl) ?_
            refine va_get (pc := 61) (D := (dC, dI)) (ci := 5) (v := .ref (ad 21)) (C := RM) (T := TM) (N := 24) gX gB hw0 inM hown hK hP 0 rfl rfl 21 (by decide) (hw0 _ q672) (fun _ h9 => h9) rfl dM_weaken_61 ?_
            refine lv_iload_n (pc := 64) gX gB dM_weaken_64 rfl (lv_at hl 1 rfl) ?_
            have cut95 : ∀ (v : Int) (ls : Array Slot) (H : Heap) (locs : List Loc), (v = w2 f1 i) → (0 ≤ v ∧ v ≤ 11) → lv_has ls 5 [(0, .ref (ad 0)), (1, .int (iv i))] → va_P (dC, dI) vwCl (pM cI cZ cG cR ad th tb fi se lf ct ln tx kl kp fl fo ol ot pl ky nu yk yn lc fw f2 lw od) H → va_D A0 (pM cI cZ cG cR ad th tb fi se lf ct ln tx kl kp fl fo ol ot pl ky nu yk yn lc fw f2 lw od) → va_S A0 s0.heap H locs → W p0 l e0 R0 s0 m0 a0 b0 t0 c0 H locs 0 0 Q0 (F0 m0 95 ls [.int (iv v), .int (iv i), .ref (ad 21)]) := by
              intro v ls H locs hv9 hvr hl hP hD hS
              refine jv_iast (pc := 95) (ws' := (pM cI cZ cG cR ad th tb fi se lf ct ln tx kl kp fl fo ol ot pl ky nu yk yn lc fw (uI f2 i v) lw od)) gX gB hK hP hD hS 16 0 rfl rfl (by decide) (by omega) dM_weaken_95 rfl (fun H locs hP hD hS => ?_)
              refine jv_iinc (pc := 96) (k := 1) (x := i) (n := 1) (lv' := [(1, .int (iv (i + 1))), (0, .ref (ad 0))]) gX gB dM_weaken_96 hl rfl (by decide) rfl (fun ls hl => ?_)
              refine lv_goto (pc := 99) (tgt := 52) gX gB dM_weaken_99 (by decide) ?_
              exact ih52 (i + 1) (uI f2 i v) _ _ _ (by omega) (by exact stg_up hg hv9) (by exact RGK_up hr9 hvr) (by omega) (lv_sub hl [1, 0] rfl) hP hD hS
            refine lv_aload_n (pc := 65) gX gB dM_weaken_65 rfl (lv_at hl 0 rfl) ?_
            refine va_get (pc := 66) (D := (dC, dI)) (ci := 5) (v := .ref (ad 21)) (C := RM) (T := TM) (N := 24) gX gB hw0 inM hown hK hP 0 rfl rfl 21 (by decide) (hw0 _ q672) (fun _ h9 => h9) rfl dM_weaken_66 ?_
            refine lv_iload_n (pc := 69) gX gB dM_weaken_69 rfl (lv_at hl 1 rfl) ?_
            refine jv_iald (pc := 70) gX gB hK hP 16 0 rfl rfl (by decide) (by omega) dM_weaken_70 ?_
            refine lv_iconst (pc := 71) (v := iv 3) gX gB dM_weaken_71 rfl ?_
            refine jv_icmp_ne (pc := 72) (tgt := 89) gX gB dM_weaken_72 (by decide) (by omega) (by decide) (fun h22 => ?_) (fun h22 => ?_)
            · skip
              refine lv_aload_n (pc := 89) gX gB dM_weaken_89 rfl (lv_at hl 0 rfl) ?_
              refine va_get (pc := 90) (D := (dC, dI)) (ci := 5) (v := .ref (ad 21)) (C := RM) (T := TM) (N := 24) gX gB hw0 inM hown hK hP 0 rfl rfl 21 (by decide) (hw0 _ q672) (fun _ h9 => h9) rfl dM_weaken_90 ?_
              refine lv_iload_n (pc := 93) gX gB dM_weaken_93 rfl (lv_at hl 1 rfl) ?_
              refine jv_iald (pc := 94) gX gB hK hP 16 0 rfl rfl (by decide) (by omega) dM_weaken_94 ?_
              exact cut95 (f2 i) _ _ _ (by unfold w2; rw [if_neg (fun z => by omega)]; exact a1) (by omega) hl hP hD hS
            refine lv_aload_n (pc := 75) gX gB dM_weaken_75 rfl (lv_at hl 0 rfl) ?_
            refine lv_iload_n (pc := 76) gX gB dM_weaken_76 rfl (lv_at hl 1 rfl) ?_
            refine jv_ri (pc := 77) (wr := []) (wn := fun u : Int => (pM cI cZ cG cR ad th tb fi se lf ct ln tx kl kp fl fo ol ot pl ky nu yk yn lc fw f2 lw od)) (va_runV (rest := [.int (iv i), .ref (ad 21)]) ⟨gX, gB, hml, hown, hw0⟩ (c_M_nearest l dC dI cI cZ cG cR ad th tb fi se lf ct ln tx kl kp fl fo ol ot pl ky nu yk yn lc fw f2 lw od _ i (by omega) (by exact z0) (by exact fun j a b => hr9 j a (by omega))) (jcV hw0 kM_nearest q884 rfl rfl ⟨Nat.le_trans (Nat.le_of_ble_eq_true rfl) hRf, Nat.le_trans (Nat.le_of_ble_eq_true rfl) hRl⟩) (jv_preV (ci := 5) (q0 := 0) hK hP hD [0, 1, 2, 3, 4, 5, 6, 7, 8, 9, 10, 11, 12, 13, 14, 15, 16, 17, 18] rfl (by decide) rfl rfl) rfl rfl hl.1 rfl (lv_room (Nat.le_of_ble_eq_true rfl)) dM_weaken_77 ⟨Nat.zero_le _, Nat.zero_le _⟩) hP hD hS hA [0, 1, 2, 3, 4, 5, 6, 7, 8, 9, 10, 11, 12, 13, 14, 15, 16, 17, 18] [] [0, 1, 2, 3, 4, 5, 6, 7, 8, 9, 10, 11, 12, 13, 14, 15, 16, 17, 18] rfl rfl (by decide) (by decide) (by decide) (fun _ => rfl) (fun r0 u H locs hw77 hP hD hS => ?_)
            obtain ⟨r_77, hu⟩ : ∃ z, z = u := ⟨_, rfl⟩; subst hu
            obtain ⟨rfl, hw77⟩ := hw77
            refine lv_iconst (pc := 80) (v := iv 2) gX gB dM_weaken_80 rfl ?_
            refine jv_icmp_ne (pc := 81) (tgt := 89) gX gB dM_weaken_81 (by decide) (by omega) (by decide) (fun h23 => ?_) (fun h23 => ?_)
            · skip
              refine lv_aload_n (pc := 89) gX gB dM_weaken_89 rfl (lv_at hl 0 rfl) ?_
              refine va_get (pc := 90) (D := (dC, dI)) (ci := 5) (v := .ref (ad 21)) (C := RM) (T := TM) (N := 24) gX gB hw0 inM hown hK hP 0 rfl rfl 21 (by decide) (hw0 _ q672) (fun _ h9 => h9) rfl dM_weaken_90 ?_
              refine lv_iload_n (pc := 93) gX gB dM_weaken_93 rfl (lv_at hl 1 rfl) ?_
              refine jv_iald (pc := 94) gX gB hK hP 16 0 rfl rfl (by decide) (by omega) dM_weaken_94 ?_
              exact cut95 (f2 i) _ _ _ (by unfold w2; rw [if_neg (fun z => by omega)]; exact a1) (by omega) hl hP hD hS
            refine lv_bipush (pc := 84) (v := iv 6) gX gB dM_weaken_84 (by decide) ?_
            refine lv_goto (pc := 86) (tgt := 95) gX gB dM_weaken_86 (by decide) ?_
            exact cut95 6 _ _ _ (by unfold w2; rw [if_pos ⟨by omega, by omega, by omega⟩]) (by omega) hl hP hD hS
        exact cut52 (((ln + 1 - 1 : Int).toNat) + 1) 1 f1 _ _ _ (by omega) (by exact stg_0 (BS_2 hn B1).2.1) (by exact B1.2.2) (Nat.lt_succ_self _) (lv_sub hl [1, 0] rfl) hP hD hS
      have a1 := hg.2 i (by omega) (by omega)
      have a2 := hg.1 (i - 1) (by omega) (by omega)
      have a3 := hr9 i (by omega) (by omega)
      have a4 := hr9 (i - 1) (by omega) (by omega)
      refine lv_aload_n (pc := 10) gX gB dM_weaken_10 rfl (lv_at hl 0 rfl) ?_
      refine va_get (pc := 11) (D := (dC, dI)) (ci := 5) (v := .ref (ad 21)) (C := RM) (T := TM) (N := 24) gX gB hw0 inM hown hK hP 0 rfl rfl 21 (by decide) (hw0 _ q672) (fun _ h9 => h9) rfl dM_weaken_11 ?_
      refine lv_iload_n (pc := 14) gX gB dM_weaken_14 rfl (lv_at hl 1 rfl) ?_
      have cut43 : ∀ (v : Int) (ls : Array Slot) (H : Heap) (locs : List Loc), (v = w1 sd i) → (0 ≤ v ∧ v ≤ 11) → lv_has ls 5 [(0, .ref (ad 0)), (1, .int (iv i))] → va_P (dC, dI) vwCl (pM cI cZ cG cR ad th tb fi se lf ct ln tx kl kp fl fo ol ot pl ky nu yk yn lc fw f1 lw od) H → va_D A0 (pM cI cZ cG cR ad th tb fi se lf ct ln tx kl kp fl fo ol ot pl ky nu yk yn lc fw f1 lw od) → va_S A0 s0.heap H locs → W p0 l e0 R0 s0 m0 a0 b0 t0 c0 H locs 0 0 Q0 (F0 m0 43 ls [.int (iv v), .int (iv i), .ref (ad 21)]) := by
        intro v ls H locs hv9 hvr hl hP hD hS
        refine jv_iast (pc := 43) (ws' := (pM cI cZ cG cR ad th tb fi se lf ct ln tx kl kp fl fo ol ot pl ky nu yk yn lc fw (uI f1 i v) lw od)) gX gB hK hP hD hS 16 0 rfl rfl (by decide) (by omega) dM_weaken_43 rfl (fun H locs hP hD hS => ?_)
        refine jv_iinc (pc := 44) (k := 1) (x := i) (n := 1) (lv' := [(1, .int (iv (i + 1))), (0, .ref (ad 0))]) gX gB dM_weaken_44 hl rfl (by decide) rfl (fun ls hl => ?_)
        refine lv_goto (pc := 47) (tgt := 2) gX gB dM_weaken_47 (by decide) ?_
        exact ih2 (i + 1) (uI f1 i v) _ _ _ (by omega) (by exact stg_up hg hv9) (by exact RGK_up hr9 hvr) (by omega) (lv_sub hl [1, 0] rfl) hP hD hS
      refine lv_aload_n (pc := 15) gX gB dM_weaken_15 rfl (lv_at hl 0 rfl) ?_
      refine va_get (pc := 16) (D := (dC, dI)) (ci := 5) (v := .ref (ad 21)) (C := RM) (T := TM) (N := 24) gX gB hw0 inM hown hK hP 0 rfl rfl 21 (by decide) (hw0 _ q672) (fun _ h9 => h9) rfl dM_weaken_16 ?_
      refine lv_iload_n (pc := 19) gX gB dM_weaken_19 rfl (lv_at hl 1 rfl) ?_
      refine jv_iald (pc := 20) gX gB hK hP 16 0 rfl rfl (by decide) (by omega) dM_weaken_20 ?_
      refine lv_bipush (pc := 21) (v := iv 8) gX gB dM_weaken_21 (by decide) ?_
      refine jv_icmp_ne (pc := 23) (tgt := 37) gX gB dM_weaken_23 (by decide) (by omega) (by decide) (fun h24 => ?_) (fun h24 => ?_)
      · skip
        refine lv_aload_n (pc := 37) gX gB dM_weaken_37 rfl (lv_at hl 0 rfl) ?_
        refine va_get (pc := 38) (D := (dC, dI)) (ci := 5) (v := .ref (ad 21)) (C := RM) (T := TM) (N := 24) gX gB hw0 inM hown hK hP 0 rfl rfl 21 (by decide) (hw0 _ q672) (fun _ h9 => h9) rfl dM_weaken_38 ?_
        refine lv_iload_n (pc := 41) gX gB dM_weaken_41 rfl (lv_at hl 1 rfl) ?_
        refine jv_iald (pc := 42) gX gB hK hP 16 0 rfl rfl (by decide) (by omega) dM_weaken_42 ?_
        exact cut43 (f1 i) _ _ _ (by rw [w1_s (by omega), if_neg (by omega)]; exact a1) (by omega) hl hP hD hS
      refine lv_aload_n (pc := 26) gX gB dM_weaken_26 rfl (lv_at hl 0 rfl) ?_
      refine va_get (pc := 27) (D := (dC, dI)) (ci := 5) (v := .ref (ad 21)) (C := RM) (T := TM) (N := 24) gX gB hw0 inM hown hK hP 0 rfl rfl 21 (by decide) (hw0 _ q672) (fun _ h9 => h9) rfl dM_weaken_27 ?_
      refine lv_iload_n (pc := 30) gX gB dM_weaken_30 rfl (lv_at hl 1 rfl) ?_
      refine lv_iconst (pc := 31) (v := iv 1) gX gB dM_weaken_31 rfl ?_
      refine jv_isub (pc := 32) (x := i) (y := 1) gX gB dM_weaken_32 ?_
      refine jv_iald (pc := 33) gX gB hK hP 16 0 rfl rfl (by decide) (by omega) dM_weaken_33 ?_
      refine lv_goto (pc := 34) (tgt := 43) gX gB dM_weaken_34 (by decide) ?_
      exact cut43 (f1 (i - 1)) _ _ _ (by rw [w1_s (by omega), if_pos (by omega)]; exact a2) (by omega) hl hP hD hS
  exact cut2 (((ln + 1 - 1 : Int).toNat) + 1) 1 sd _ _ _ (by omega) (by exact stg_0 (BS_1 hn hB).2.1) (by exact hB.2.2) (Nat.lt_succ_self _) (lv_sub hl [1, 0] rfl) hP hD hS
