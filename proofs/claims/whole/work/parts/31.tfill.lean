set_option maxRecDepth 100000 in
set_option maxHeartbeats 1000000 in
theorem c_T_fillSyllable (l : Launch) (dC : Nat → ClassId) (dI : Nat → Nat → Nat) (cI : ClassId) (cZ : ClassId) (cG : ClassId) (cR : ClassId) (tA : Nat → Nat) (pr0 : Int → Int) (pr1 : Int → Int) (pr2 : Int → Int) (pr3 : Int → Int) (pr4 : Int → Int) (pr5 : Int → Int) (pr6 : Int → Int) (t1 : Int → Int) (t2 : Int → Int) (ex : Int → Int) (pt : Int → Int) (pn : Int → Int) (tc : Int → Int) (sz : Nat) (c : Int) (nb : Int) (hc : 48 ≤ c ∧ c < 75) (hnb : nb = c - 48) : Met l yT_fillSyllable wsT_fillSyllable ({ frames := 0, cells := 0, slots := 0, locals := 0 }) (va_Pc [.ref (tA 0), .int (iv c), .int (iv nb)] (jPre (dC, dI) (jT cI cZ cG cR) (wT cI cZ cG cR tA pr0 pr1 pr2 pr3 pr4 pr5 pr6 t1 t2 ex pt pn tc) sz)) (va_Qv (fun u : (Int → Int) × (Int → Int) => (c % 3 = 0 → u.1 = uI t1 c (40 + (c - 48) / 9) ∧ u.2 = uI t2 c (43 + (c - 48) / 3 % 3)) ∧ (c % 3 ≠ 0 → u.1 = uI t1 c (c - c % 3) ∧ u.2 = uI t2 c (45 + c % 3))) (fun u => jEnd (dC, dI) (jT cI cZ cG cR) (va_A (wT cI cZ cG cR tA pr0 pr1 pr2 pr3 pr4 pr5 pr6 t1 t2 ex pt pn tc) sz) (wT cI cZ cG cR tA pr0 pr1 pr2 pr3 pr4 pr5 pr6 u.1 u.2 ex pt pn tc)) (va_A (wT cI cZ cG cR tA pr0 pr1 pr2 pr3 pr4 pr5 pr6 t1 t2 ex pt pn tc) sz)) 0 0 (va_A (wT cI cZ cG cR tA pr0 pr1 pr2 pr3 pr4 pr5 pr6 t1 t2 ex pt pn tc) sz) := by
  refine jv_mv (cc := cT_fillSyllable) (maxL := 4) (by decide) rfl (Nat.le_of_ble_eq_true rfl) ?_
  intro p0 e0 s0 m0 a0 b0 t0 c0 R0 Q0 A0 ls gX gB hts hown hml hRf hRl hA hK hret hl hP hD hS
  have hown : s0.vm.findClass "TextPipeline$Table" = some m0.cls := hown
  have hw0 : ∀ w ∈ WS0, w.before a0 s0 = true := fun w h => hts w (List.mem_cons_of_mem _ h)
  have hl : lv_has ls 4 [(0, .ref (tA 0)), (1, .int (iv c)), (2, .int (iv nb))] := hl
  have hRf : 0 ≤ R0.frames := hRf
  have hRl : 0 ≤ R0.locals := hRl
  refine lv_iload_n (pc := 0) gX gB dT_fillSyllable_0 rfl (lv_at hl 2 rfl) ?_
  refine lv_iconst (pc := 1) (v := iv 3) gX gB dT_fillSyllable_1 rfl ?_
  refine jv_irem (pc := 2) (x := nb) (y := 3) gX gB dT_fillSyllable_2 (by omega) (by omega) ?_
  refine lv_istore_n (pc := 3) (lv' := [(3, .int (iv (nb % 3))), (0, .ref (tA 0)), (1, .int (iv c)), (2, .int (iv nb))]) gX gB dT_fillSyllable_3 rfl hl (by decide) rfl (fun ls hl => ?_)
  refine lv_iload_n (pc := 4) gX gB dT_fillSyllable_4 rfl (lv_at hl 0 rfl) ?_
  refine jv_if_ne (pc := 5) (tgt := 39) gX gB dT_fillSyllable_5 (by decide) (by omega) (fun h1 => ?_) (fun h1 => ?_)
  · skip
    refine lv_aload_n (pc := 39) gX gB dT_fillSyllable_39 rfl (lv_at hl 1 rfl) ?_
    refine va_get (pc := 40) (D := (dC, dI)) (ci := 1) (v := .ref (tA 9)) (C := RT) (T := TT) (N := 7) gX gB hw0 inT hown hK hP 0 rfl rfl 1 (by decide) (hw0 _ q65) (fun _ h9 => h9) rfl dT_fillSyllable_40 ?_
    refine lv_iload_n (pc := 43) gX gB dT_fillSyllable_43 rfl (lv_at hl 2 rfl) ?_
    refine lv_iload_n (pc := 44) gX gB dT_fillSyllable_44 rfl (lv_at hl 2 rfl) ?_
    refine lv_iload_n (pc := 45) gX gB dT_fillSyllable_45 rfl (lv_at hl 0 rfl) ?_
    refine jv_isub (pc := 46) (x := c) (y := nb % 3) gX gB dT_fillSyllable_46 ?_
    refine jv_iast (pc := 47) (ws' := (wT cI cZ cG cR tA pr0 pr1 pr2 pr3 pr4 pr5 pr6 (uI t1 c (c - (nb % 3))) t2 ex pt pn tc)) gX gB hK hP hD hS 9 0 rfl rfl (by decide) (by omega) dT_fillSyllable_47 rfl (fun H locs hP hD hS => ?_)
    refine lv_aload_n (pc := 48) gX gB dT_fillSyllable_48 rfl (lv_at hl 1 rfl) ?_
    refine va_get (pc := 49) (D := (dC, dI)) (ci := 1) (v := .ref (tA 10)) (C := RT) (T := TT) (N := 7) gX gB hw0 inT hown hK hP 0 rfl rfl 2 (by decide) (hw0 _ q66) (fun _ h9 => h9) rfl dT_fillSyllable_49 ?_
    refine lv_iload_n (pc := 52) gX gB dT_fillSyllable_52 rfl (lv_at hl 2 rfl) ?_
    refine lv_bipush (pc := 53) (v := iv 46) gX gB dT_fillSyllable_53 (by decide) ?_
    refine lv_iload_n (pc := 55) gX gB dT_fillSyllable_55 rfl (lv_at hl 0 rfl) ?_
    refine jv_iadd (pc := 56) (x := 46) (y := nb % 3) gX gB dT_fillSyllable_56 ?_
    refine lv_iconst (pc := 57) (v := iv 1) gX gB dT_fillSyllable_57 rfl ?_
    refine jv_isub (pc := 58) (x := 46 + (nb % 3)) (y := 1) gX gB dT_fillSyllable_58 ?_
    refine jv_iast (pc := 59) (ws' := (wT cI cZ cG cR tA pr0 pr1 pr2 pr3 pr4 pr5 pr6 (uI t1 c (c - (nb % 3))) (uI t2 c ((46 + (nb % 3)) - 1)) ex pt pn tc)) gX gB hK hP hD hS 10 0 rfl rfl (by decide) (by omega) dT_fillSyllable_59 rfl (fun H locs hP hD hS => ?_)
    exact hret ((uI t1 c (c - (nb % 3))), (uI t2 c ((46 + (nb % 3)) - 1))) dT_fillSyllable_60 (by first | (dsimp only; subst hnb; first | (refine ⟨fun _ => ⟨by congr 1, by congr 1; omega⟩, fun z => by omega⟩) | (refine ⟨fun z => by omega, fun _ => ⟨by congr 1; omega, by congr 1; omega⟩⟩)) | (subst hnb; first | (refine ⟨fun _ => ⟨by congr 1, by congr 1; omega⟩, fun z => by omega⟩) | (refine ⟨fun z => by omega, fun _ => ⟨by congr 1; omega, by congr 1; omega⟩⟩))) hP hD hS
  refine lv_aload_n (pc := 8) gX gB dT_fillSyllable_8 rfl (lv_at hl 1 rfl) ?_
  refine va_get (pc := 9) (D := (dC, dI)) (ci := 1) (v := .ref (tA 9)) (C := RT) (T := TT) (N := 7) gX gB hw0 inT hown hK hP 0 rfl rfl 1 (by decide) (hw0 _ q65) (fun _ h9 => h9) rfl dT_fillSyllable_9 ?_
  refine lv_iload_n (pc := 12) gX gB dT_fillSyllable_12 rfl (lv_at hl 2 rfl) ?_
  refine lv_bipush (pc := 13) (v := iv 40) gX gB dT_fillSyllable_13 (by decide) ?_
  refine lv_iload_n (pc := 15) gX gB dT_fillSyllable_15 rfl (lv_at hl 3 rfl) ?_
  refine lv_bipush (pc := 16) (v := iv 9) gX gB dT_fillSyllable_16 (by decide) ?_
  refine jv_idiv (pc := 18) (x := nb) (y := 9) gX gB dT_fillSyllable_18 (by omega) (by omega) ?_
  refine jv_iadd (pc := 19) (x := 40) (y := nb / 9) gX gB dT_fillSyllable_19 ?_
  refine jv_iast (pc := 20) (ws' := (wT cI cZ cG cR tA pr0 pr1 pr2 pr3 pr4 pr5 pr6 (uI t1 c (40 + (nb / 9))) t2 ex pt pn tc)) gX gB hK hP hD hS 9 0 rfl rfl (by decide) (by omega) dT_fillSyllable_20 rfl (fun H locs hP hD hS => ?_)
  refine lv_aload_n (pc := 21) gX gB dT_fillSyllable_21 rfl (lv_at hl 1 rfl) ?_
  refine va_get (pc := 22) (D := (dC, dI)) (ci := 1) (v := .ref (tA 10)) (C := RT) (T := TT) (N := 7) gX gB hw0 inT hown hK hP 0 rfl rfl 2 (by decide) (hw0 _ q66) (fun _ h9 => h9) rfl dT_fillSyllable_22 ?_
  refine lv_iload_n (pc := 25) gX gB dT_fillSyllable_25 rfl (lv_at hl 2 rfl) ?_
  refine lv_bipush (pc := 26) (v := iv 43) gX gB dT_fillSyllable_26 (by decide) ?_
  refine lv_iload_n (pc := 28) gX gB dT_fillSyllable_28 rfl (lv_at hl 3 rfl) ?_
  refine lv_bipush (pc := 29) (v := iv 9) gX gB dT_fillSyllable_29 (by decide) ?_
  refine jv_irem (pc := 31) (x := nb) (y := 9) gX gB dT_fillSyllable_31 (by omega) (by omega) ?_
  refine lv_iconst (pc := 32) (v := iv 3) gX gB dT_fillSyllable_32 rfl ?_
  refine jv_idiv (pc := 33) (x := nb % 9) (y := 3) gX gB dT_fillSyllable_33 (by omega) (by omega) ?_
  refine jv_iadd (pc := 34) (x := 43) (y := (nb % 9) / 3) gX gB dT_fillSyllable_34 ?_
  refine jv_iast (pc := 35) (ws' := (wT cI cZ cG cR tA pr0 pr1 pr2 pr3 pr4 pr5 pr6 (uI t1 c (40 + (nb / 9))) (uI t2 c (43 + ((nb % 9) / 3))) ex pt pn tc)) gX gB hK hP hD hS 10 0 rfl rfl (by decide) (by omega) dT_fillSyllable_35 rfl (fun H locs hP hD hS => ?_)
  refine lv_goto (pc := 36) (tgt := 60) gX gB dT_fillSyllable_36 (by decide) ?_
  exact hret ((uI t1 c (40 + (nb / 9))), (uI t2 c (43 + ((nb % 9) / 3)))) dT_fillSyllable_60 (by first | (dsimp only; subst hnb; first | (refine ⟨fun _ => ⟨by congr 1, by congr 1; omega⟩, fun z => by omega⟩) | (refine ⟨fun z => by omega, fun _ => ⟨by congr 1; omega, by congr 1; omega⟩⟩)) | (subst hnb; first | (refine ⟨fun _ => ⟨by congr 1, by congr 1; omega⟩, fun z => by omega⟩) | (refine ⟨fun z => by omega, fun _ => ⟨by congr 1; omega, by congr 1; omega⟩⟩))) hP hD hS
set_option maxRecDepth 100000 in
set_option maxHeartbeats 2000000 in
theorem c_T_fillPartings (l : Launch) (dC : Nat → ClassId) (dI : Nat → Nat → Nat) (cI : ClassId) (cZ : ClassId) (cG : ClassId) (cR : ClassId) (tA : Nat → Nat) (pr0 : Int → Int) (pr1 : Int → Int) (pr2 : Int → Int) (pr3 : Int → Int) (pr4 : Int → Int) (pr5 : Int → Int) (pr6 : Int → Int) (t1 : Int → Int) (t2 : Int → Int) (ex : Int → Int) (pt : Int → Int) (pn : Int → Int) (tc : Int → Int) (sz : Nat) : Met l yT_fillPartings wsT_fillPartings ({ frames := 1, cells := 0, slots := 0, locals := 23 }) (va_Pc [.ref (tA 0)] (jPre (dC, dI) (jT cI cZ cG cR) (wT cI cZ cG cR tA pr0 pr1 pr2 pr3 pr4 pr5 pr6 t1 t2 ex pt pn tc) sz)) (va_Qv (fun u : (Int → Int) × (Int → Int) => vpt u.1 u.2 ∧ fixP u.1 u.2 ∧ (∀ c, 0 ≤ c → c < 40 → u.1 c = -1 ∧ u.2 c = -1)) (fun u => jEnd (dC, dI) (jT cI cZ cG cR) (va_A (wT cI cZ cG cR tA pr0 pr1 pr2 pr3 pr4 pr5 pr6 t1 t2 ex pt pn tc) sz) (wT cI cZ cG cR tA pr0 pr1 pr2 pr3 pr4 pr5 pr6 u.1 u.2 ex pt pn tc)) (va_A (wT cI cZ cG cR tA pr0 pr1 pr2 pr3 pr4 pr5 pr6 t1 t2 ex pt pn tc) sz)) 0 0 (va_A (wT cI cZ cG cR tA pr0 pr1 pr2 pr3 pr4 pr5 pr6 t1 t2 ex pt pn tc) sz) := by
  refine jv_mv (cc := cT_fillPartings) (maxL := 2) (by decide) rfl (Nat.le_of_ble_eq_true rfl) ?_
  intro p0 e0 s0 m0 a0 b0 t0 c0 R0 Q0 A0 ls gX gB hts hown hml hRf hRl hA hK hret hl hP hD hS
  have hown : s0.vm.findClass "TextPipeline$Table" = some m0.cls := hown
  have hw0 : ∀ w ∈ WS0, w.before a0 s0 = true := fun w h => hts w (List.mem_cons_of_mem _ h)
  have hl : lv_has ls 2 [(0, .ref (tA 0))] := hl
  have hRf : 1 ≤ R0.frames := hRf
  have hRl : 23 ≤ R0.locals := hRl
  refine lv_iconst (pc := 0) (v := iv 0) gX gB dT_fillPartings_0 rfl ?_
  refine lv_istore_n (pc := 1) (lv' := [(1, .int (iv 0)), (0, .ref (tA 0))]) gX gB dT_fillPartings_1 rfl hl (by decide) rfl (fun ls hl => ?_)
  have cut2 : ∀ (n0 : Nat) (c : Int) (g : Int → Int) (h : Int → Int) (ls : Array Slot) (H : Heap) (locs : List Loc), (0 ≤ c ∧ c ≤ 48) → (∀ j, 0 ≤ j → j < c → g j = -1 ∧ h j = -1) → ((48 - c : Int).toNat < n0) → lv_has ls 2 [(0, .ref (tA 0)), (1, .int (iv c))] → va_P (dC, dI) vwCl (wT cI cZ cG cR tA pr0 pr1 pr2 pr3 pr4 pr5 pr6 g h ex pt pn tc) H → va_D A0 (wT cI cZ cG cR tA pr0 pr1 pr2 pr3 pr4 pr5 pr6 g h ex pt pn tc) → va_S A0 s0.heap H locs → W p0 l e0 R0 s0 m0 a0 b0 t0 c0 H locs 0 0 Q0 (F0 m0 2 ls []) := by
    intro n0
    induction n0 with
    | zero => intro c g h ls H locs hc hq hm hl hP hD hS; exact absurd hm (Nat.not_lt_zero _)
    | succ n0 ih2 =>
      intro c g h ls H locs hc hq hm2 hl hP hD hS
      refine lv_iload_n (pc := 2) gX gB dT_fillPartings_2 rfl (lv_at hl 1 rfl) ?_
      refine lv_bipush (pc := 3) (v := iv 48) gX gB dT_fillPartings_3 (by decide) ?_
      refine jv_icmp_ge (pc := 5) (tgt := 28) gX gB dT_fillPartings_5 (by decide) (by omega) (by decide) (fun h1 => ?_) (fun h1 => ?_)
      · skip
        refine lv_bipush (pc := 28) (v := iv 48) gX gB dT_fillPartings_28 (by decide) ?_
        refine lv_istore_n (pc := 30) (lv' := [(1, .int (iv 48)), (0, .ref (tA 0))]) gX gB dT_fillPartings_30 rfl hl (by decide) rfl (fun ls hl => ?_)
        have cut31 : ∀ (n0 : Nat) (c : Int) (g2 : Int → Int) (ww : Int → Int) (ls : Array Slot) (H : Heap) (locs : List Loc), (48 ≤ c ∧ c ≤ 75) → (∀ j, 0 ≤ j → j < 48 → g2 j = -1 ∧ ww j = -1) → (∀ j, 48 ≤ j → j < c → (j % 3 = 0 → g2 j = 40 + (j - 48) / 9 ∧ ww j = 43 + (j - 48) / 3 % 3) ∧ (j % 3 ≠ 0 → g2 j = j - j % 3 ∧ ww j = 45 + j % 3)) → ((75 - c : Int).toNat < n0) → lv_has ls 2 [(0, .ref (tA 0)), (1, .int (iv c))] → va_P (dC, dI) vwCl (wT cI cZ cG cR tA pr0 pr1 pr2 pr3 pr4 pr5 pr6 g2 ww ex pt pn tc) H → va_D A0 (wT cI cZ cG cR tA pr0 pr1 pr2 pr3 pr4 pr5 pr6 g2 ww ex pt pn tc) → va_S A0 s0.heap H locs → W p0 l e0 R0 s0 m0 a0 b0 t0 c0 H locs 0 0 Q0 (F0 m0 31 ls []) := by
          intro n0
          induction n0 with
          | zero => intro c g2 ww ls H locs hc2 hq2 hs2 hm hl hP hD hS; exact absurd hm (Nat.not_lt_zero _)
          | succ n0 ih31 =>
            intro c g2 ww ls H locs hc2 hq2 hs2 hm31 hl hP hD hS
            refine lv_iload_n (pc := 31) gX gB dT_fillPartings_31 rfl (lv_at hl 1 rfl) ?_
            refine lv_bipush (pc := 32) (v := iv 75) gX gB dT_fillPartings_32 (by decide) ?_
            refine jv_icmp_ge (pc := 34) (tgt := 52) gX gB dT_fillPartings_34 (by decide) (by omega) (by decide) (fun h2 => ?_) (fun h2 => ?_)
            · skip
              exact hret (g2, ww) dT_fillPartings_52 (by first | (dsimp only; exact ⟨fun j a b => by have := hq2 j a (by omega); omega, ⟨fun j a b => hq2 j (by omega) b, fun j a b => hs2 j a (by omega)⟩, fun j a b => hq2 j a (by omega)⟩) | (exact ⟨fun j a b => by have := hq2 j a (by omega); omega, ⟨fun j a b => hq2 j (by omega) b, fun j a b => hs2 j a (by omega)⟩, fun j a b => hq2 j a (by omega)⟩)) hP hD hS
            refine lv_aload_n (pc := 37) gX gB dT_fillPartings_37 rfl (lv_at hl 0 rfl) ?_
            refine lv_iload_n (pc := 38) gX gB dT_fillPartings_38 rfl (lv_at hl 1 rfl) ?_
            refine lv_iload_n (pc := 39) gX gB dT_fillPartings_39 rfl (lv_at hl 1 rfl) ?_
            refine lv_bipush (pc := 40) (v := iv 48) gX gB dT_fillPartings_40 (by decide) ?_
            refine jv_isub (pc := 42) (x := c) (y := 48) gX gB dT_fillPartings_42 ?_
            refine jv_rv (pc := 43) (wr := []) (wn := fun u : (Int → Int) × (Int → Int) => (wT cI cZ cG cR tA pr0 pr1 pr2 pr3 pr4 pr5 pr6 u.1 u.2 ex pt pn tc)) (va_runV (rest := []) ⟨gX, gB, hml, hown, hw0⟩ (c_T_fillSyllable l dC dI cI cZ cG cR tA pr0 pr1 pr2 pr3 pr4 pr5 pr6 g2 ww ex pt pn tc _ c (c - 48) (by omega) (by omega)) (jcV hw0 kT_fillSyllable q44 rfl rfl ⟨Nat.le_trans (Nat.le_of_ble_eq_true rfl) hRf, Nat.le_trans (Nat.le_of_ble_eq_true rfl) hRl⟩) (jv_preV (ci := 1) (q0 := 0) hK hP hD [0, 1, 2, 3, 4, 5, 6, 7, 8, 9, 10, 11, 12, 13, 14] rfl (by decide) rfl rfl) rfl rfl hl.1 rfl (lv_room (Nat.le_of_ble_eq_true rfl)) dT_fillPartings_43 ⟨Nat.zero_le _, Nat.zero_le _⟩) hP hD hS hA [0, 1, 2, 3, 4, 5, 6, 7, 8, 9, 10, 11, 12, 13, 14] [] [0, 1, 2, 3, 4, 5, 6, 7, 8, 9, 10, 11, 12, 13, 14] rfl rfl (by decide) (by decide) (by decide) (fun _ => rfl) (fun u H locs hw43 hP hD hS => ?_)
            obtain ⟨t1_43, t2_43⟩ := u
            dsimp only at hw43 hP hD
            refine jv_iinc (pc := 46) (k := 1) (x := c) (n := 1) (lv' := [(1, .int (iv (c + 1))), (0, .ref (tA 0))]) gX gB dT_fillPartings_46 hl rfl (by decide) rfl (fun ls hl => ?_)
            refine lv_goto (pc := 49) (tgt := 31) gX gB dT_fillPartings_49 (by decide) ?_
            exact ih31 (c + 1) t1_43 t2_43 _ _ _ (by omega) (by intro j a b; by_cases z : c % 3 = 0; (rw [(hw43.1 z).1, (hw43.1 z).2, uI_n (by omega), uI_n (by omega)]; exact hq2 j a b); (rw [(hw43.2 z).1, (hw43.2 z).2, uI_n (by omega), uI_n (by omega)]; exact hq2 j a b)) (by intro j a b; by_cases e : j = c; (subst e; exact ⟨fun z => by rw [(hw43.1 z).1, (hw43.1 z).2, uI_s, uI_s]; exact ⟨rfl, rfl⟩, fun z => by rw [(hw43.2 z).1, (hw43.2 z).2, uI_s, uI_s]; exact ⟨rfl, rfl⟩⟩); (by_cases z : c % 3 = 0; (rw [(hw43.1 z).1, (hw43.1 z).2, uI_n e, uI_n e]; exact hs2 j a (by omega)); (rw [(hw43.2 z).1, (hw43.2 z).2, uI_n e, uI_n e]; exact hs2 j a (by omega)))) (by omega) (lv_sub hl [1, 0] rfl) hP hD hS
        exact cut31 (((75 - 48 : Int).toNat) + 1) 48 g h _ _ _ (by omega) (by exact fun j a b => hq j a (by omega)) (by intro j a b; omega) (Nat.lt_succ_self _) (lv_sub hl [1, 0] rfl) hP hD hS
      refine lv_aload_n (pc := 8) gX gB dT_fillPartings_8 rfl (lv_at hl 0 rfl) ?_
      refine va_get (pc := 9) (D := (dC, dI)) (ci := 1) (v := .ref (tA 9)) (C := RT) (T := TT) (N := 7) gX gB hw0 inT hown hK hP 0 rfl rfl 1 (by decide) (hw0 _ q65) (fun _ h9 => h9) rfl dT_fillPartings_9 ?_
      refine lv_iload_n (pc := 12) gX gB dT_fillPartings_12 rfl (lv_at hl 1 rfl) ?_
      refine lv_iconst (pc := 13) (v := iv (-1)) gX gB dT_fillPartings_13 rfl ?_
      refine jv_iast (pc := 14) (ws' := (wT cI cZ cG cR tA pr0 pr1 pr2 pr3 pr4 pr5 pr6 (uI g c (-1)) h ex pt pn tc)) gX gB hK hP hD hS 9 0 rfl rfl (by decide) (by omega) dT_fillPartings_14 rfl (fun H locs hP hD hS => ?_)
      refine lv_aload_n (pc := 15) gX gB dT_fillPartings_15 rfl (lv_at hl 0 rfl) ?_
      refine va_get (pc := 16) (D := (dC, dI)) (ci := 1) (v := .ref (tA 10)) (C := RT) (T := TT) (N := 7) gX gB hw0 inT hown hK hP 0 rfl rfl 2 (by decide) (hw0 _ q66) (fun _ h9 => h9) rfl dT_fillPartings_16 ?_
      refine lv_iload_n (pc := 19) gX gB dT_fillPartings_19 rfl (lv_at hl 1 rfl) ?_
      refine lv_iconst (pc := 20) (v := iv (-1)) gX gB dT_fillPartings_20 rfl ?_
      refine jv_iast (pc := 21) (ws' := (wT cI cZ cG cR tA pr0 pr1 pr2 pr3 pr4 pr5 pr6 (uI g c (-1)) (uI h c (-1)) ex pt pn tc)) gX gB hK hP hD hS 10 0 rfl rfl (by decide) (by omega) dT_fillPartings_21 rfl (fun H locs hP hD hS => ?_)
      refine jv_iinc (pc := 22) (k := 1) (x := c) (n := 1) (lv' := [(1, .int (iv (c + 1))), (0, .ref (tA 0))]) gX gB dT_fillPartings_22 hl rfl (by decide) rfl (fun ls hl => ?_)
      refine lv_goto (pc := 25) (tgt := 2) gX gB dT_fillPartings_25 (by decide) ?_
      exact ih2 (c + 1) (uI g c (-1)) (uI h c (-1)) _ _ _ (by omega) (by intro j a b; by_cases e : j = c; (rw [uI_e e, uI_e e]; exact ⟨rfl, rfl⟩); (rw [uI_n e, uI_n e]; exact hq j a (by omega))) (by omega) (lv_sub hl [1, 0] rfl) hP hD hS
  exact cut2 (((48 - 0 : Int).toNat) + 1) 0 t1 t2 _ _ _ (by omega) (by intro j a b; omega) (Nat.lt_succ_self _) (lv_sub hl [1, 0] rfl) hP hD hS
set_option maxRecDepth 100000 in
set_option maxHeartbeats 2000000 in
theorem c_T_fillFixedProperties (l : Launch) (dC : Nat → ClassId) (dI : Nat → Nat → Nat) (cI : ClassId) (cZ : ClassId) (cG : ClassId) (cR : ClassId) (tA : Nat → Nat) (pr0 : Int → Int) (pr1 : Int → Int) (pr2 : Int → Int) (pr3 : Int → Int) (pr4 : Int → Int) (pr5 : Int → Int) (pr6 : Int → Int) (t1 : Int → Int) (t2 : Int → Int) (ex : Int → Int) (pt : Int → Int) (pn : Int → Int) (tc : Int → Int) (sz : Nat) : Met l yT_fillFixedProperties wsT_fillFixedProperties ({ frames := 0, cells := 0, slots := 0, locals := 0 }) (va_Pc [.ref (tA 0)] (jPre (dC, dI) (jT cI cZ cG cR) (wT cI cZ cG cR tA pr0 pr1 pr2 pr3 pr4 pr5 pr6 t1 t2 ex pt pn tc) sz)) (va_Qv (fun u : (Int → Int) × (Int → Int) × (Int → Int) × (Int → Int) => (∀ j, 40 ≤ j → j < 75 → u.1 j = 10) ∧ (∀ j, j < 40 → u.1 j = pr2 j) ∧ (∀ j, 40 ≤ j → j < 48 → u.2.1 j = 1000 + j) ∧ (∀ j, (j < 40 ∨ 48 ≤ j) → u.2.1 j = pr4 j) ∧ (∀ j, 40 ≤ j → j < 48 → u.2.2.1 j = 1) ∧ (∀ j, (j < 40 ∨ 48 ≤ j) → u.2.2.1 j = pr5 j) ∧ (∀ j, 40 ≤ j → j < 48 → u.2.2.2 j = 1) ∧ (∀ j, (j < 40 ∨ 48 ≤ j) → u.2.2.2 j = pr6 j)) (fun u => jEnd (dC, dI) (jT cI cZ cG cR) (va_A (wT cI cZ cG cR tA pr0 pr1 pr2 pr3 pr4 pr5 pr6 t1 t2 ex pt pn tc) sz) (wT cI cZ cG cR tA pr0 pr1 u.1 pr3 u.2.1 u.2.2.1 u.2.2.2 t1 t2 ex pt pn tc)) (va_A (wT cI cZ cG cR tA pr0 pr1 pr2 pr3 pr4 pr5 pr6 t1 t2 ex pt pn tc) sz)) 0 0 (va_A (wT cI cZ cG cR tA pr0 pr1 pr2 pr3 pr4 pr5 pr6 t1 t2 ex pt pn tc) sz) := by
  refine jv_mv (cc := cT_fillFixedProperties) (maxL := 3) (by decide) rfl (Nat.le_of_ble_eq_true rfl) ?_
  intro p0 e0 s0 m0 a0 b0 t0 c0 R0 Q0 A0 ls gX gB hts hown hml hRf hRl hA hK hret hl hP hD hS
  have hown : s0.vm.findClass "TextPipeline$Table" = some m0.cls := hown
  have hw0 : ∀ w ∈ WS0, w.before a0 s0 = true := fun w h => hts w (List.mem_cons_of_mem _ h)
  have hl : lv_has ls 3 [(0, .ref (tA 0))] := hl
  have hRf : 0 ≤ R0.frames := hRf
  have hRl : 0 ≤ R0.locals := hRl
  refine lv_bipush (pc := 0) (v := iv 40) gX gB dT_fillFixedProperties_0 (by decide) ?_
  refine lv_istore_n (pc := 2) (lv' := [(1, .int (iv 40)), (0, .ref (tA 0))]) gX gB dT_fillFixedProperties_2 rfl hl (by decide) rfl (fun ls hl => ?_)
  have cut3 : ∀ (n0 : Nat) (c : Int) (u2 : Int → Int) (ls : Array Slot) (H : Heap) (locs : List Loc), (40 ≤ c ∧ c ≤ 75) → (∀ j, 40 ≤ j → j < c → u2 j = 10) → (∀ j, j < 40 → u2 j = pr2 j) → ((75 - c : Int).toNat < n0) → lv_has ls 3 [(0, .ref (tA 0)), (1, .int (iv c))] → va_P (dC, dI) vwCl (wT cI cZ cG cR tA pr0 pr1 u2 pr3 pr4 pr5 pr6 t1 t2 ex pt pn tc) H → va_D A0 (wT cI cZ cG cR tA pr0 pr1 u2 pr3 pr4 pr5 pr6 t1 t2 ex pt pn tc) → va_S A0 s0.heap H locs → W p0 l e0 R0 s0 m0 a0 b0 t0 c0 H locs 0 0 Q0 (F0 m0 3 ls []) := by
    intro n0
    induction n0 with
    | zero => intro c u2 ls H locs hc ha2 hb2 hm hl hP hD hS; exact absurd hm (Nat.not_lt_zero _)
    | succ n0 ih3 =>
      intro c u2 ls H locs hc ha2 hb2 hm3 hl hP hD hS
      refine lv_iload_n (pc := 3) gX gB dT_fillFixedProperties_3 rfl (lv_at hl 1 rfl) ?_
      refine lv_bipush (pc := 4) (v := iv 75) gX gB dT_fillFixedProperties_4 (by decide) ?_
      refine jv_icmp_ge (pc := 6) (tgt := 25) gX gB dT_fillFixedProperties_6 (by decide) (by omega) (by decide) (fun h1 => ?_) (fun h1 => ?_)
      · skip
        refine lv_bipush (pc := 25) (v := iv 40) gX gB dT_fillFixedProperties_25 (by decide) ?_
        refine lv_istore_n (pc := 27) (lv' := [(1, .int (iv 40)), (0, .ref (tA 0))]) gX gB dT_fillFixedProperties_27 rfl hl (by decide) rfl (fun ls hl => ?_)
        have cut28 : ∀ (n0 : Nat) (c : Int) (u4 : Int → Int) (u5 : Int → Int) (u6 : Int → Int) (ls : Array Slot) (H : Heap) (locs : List Loc), (40 ≤ c ∧ c ≤ 48) → (∀ j, 40 ≤ j → j < c → u4 j = 1000 + j ∧ u5 j = 1 ∧ u6 j = 1) → (∀ j, (j < 40 ∨ c ≤ j) → u4 j = pr4 j ∧ u5 j = pr5 j ∧ u6 j = pr6 j) → ((48 - c : Int).toNat < n0) → lv_has ls 3 [(0, .ref (tA 0)), (1, .int (iv c))] → va_P (dC, dI) vwCl (wT cI cZ cG cR tA pr0 pr1 u2 pr3 u4 u5 u6 t1 t2 ex pt pn tc) H → va_D A0 (wT cI cZ cG cR tA pr0 pr1 u2 pr3 u4 u5 u6 t1 t2 ex pt pn tc) → va_S A0 s0.heap H locs → W p0 l e0 R0 s0 m0 a0 b0 t0 c0 H locs 0 0 Q0 (F0 m0 28 ls []) := by
          intro n0
          induction n0 with
          | zero => intro c u4 u5 u6 ls H locs hc4 ha4 hb4 hm hl hP hD hS; exact absurd hm (Nat.not_lt_zero _)
          | succ n0 ih28 =>
            intro c u4 u5 u6 ls H locs hc4 ha4 hb4 hm28 hl hP hD hS
            refine lv_iload_n (pc := 28) gX gB dT_fillFixedProperties_28 rfl (lv_at hl 1 rfl) ?_
            refine lv_bipush (pc := 29) (v := iv 48) gX gB dT_fillFixedProperties_29 (by decide) ?_
            refine jv_icmp_ge (pc := 31) (tgt := 77) gX gB dT_fillFixedProperties_31 (by decide) (by omega) (by decide) (fun h2 => ?_) (fun h2 => ?_)
            · skip
              exact hret (u2, u4, u5, u6) dT_fillFixedProperties_77 (by first | (dsimp only; exact ⟨fun j a b => ha2 j a (by omega), hb2, fun j a b => (ha4 j a (by omega)).1, fun j a => (hb4 j (by omega)).1, fun j a b => (ha4 j a (by omega)).2.1, fun j a => (hb4 j (by omega)).2.1, fun j a b => (ha4 j a (by omega)).2.2, fun j a => (hb4 j (by omega)).2.2⟩) | (exact ⟨fun j a b => ha2 j a (by omega), hb2, fun j a b => (ha4 j a (by omega)).1, fun j a => (hb4 j (by omega)).1, fun j a b => (ha4 j a (by omega)).2.1, fun j a => (hb4 j (by omega)).2.1, fun j a b => (ha4 j a (by omega)).2.2, fun j a => (hb4 j (by omega)).2.2⟩)) hP hD hS
            refine lv_aload_n (pc := 34) gX gB dT_fillFixedProperties_34 rfl (lv_at hl 0 rfl) ?_
            refine va_get (pc := 35) (D := (dC, dI)) (ci := 1) (v := .ref (tA 1)) (C := RT) (T := TT) (N := 7) gX gB hw0 inT hown hK hP 0 rfl rfl 0 (by decide) (hw0 _ q64) (fun _ h9 => h9) rfl dT_fillFixedProperties_35 ?_
            refine lv_iconst (pc := 38) (v := iv 4) gX gB dT_fillFixedProperties_38 rfl ?_
            refine jv_aald (pc := 39) (v := tA 6) gX gB hK hP 1 2 rfl rfl rfl (by decide) (by decide) rfl dT_fillFixedProperties_39 ?_
            refine lv_iload_n (pc := 40) gX gB dT_fillFixedProperties_40 rfl (lv_at hl 1 rfl) ?_
            refine lv_sipush (pc := 41) (v := iv 1000) gX gB dT_fillFixedProperties_41 (by decide) ?_
            refine lv_iload_n (pc := 44) gX gB dT_fillFixedProperties_44 rfl (lv_at hl 1 rfl) ?_
            refine jv_iadd (pc := 45) (x := 1000) (y := c) gX gB dT_fillFixedProperties_45 ?_
            refine jv_iast (pc := 46) (ws' := (wT cI cZ cG cR tA pr0 pr1 u2 pr3 (uI u4 c (1000 + c)) u5 u6 t1 t2 ex pt pn tc)) gX gB hK hP hD hS 6 0 rfl rfl (by decide) (by omega) dT_fillFixedProperties_46 rfl (fun H locs hP hD hS => ?_)
            refine lv_iconst (pc := 47) (v := iv 1) gX gB dT_fillFixedProperties_47 rfl ?_
            refine lv_istore_n (pc := 48) (lv' := [(2, .int (iv 1)), (0, .ref (tA 0)), (1, .int (iv c))]) gX gB dT_fillFixedProperties_48 rfl hl (by decide) rfl (fun ls hl => ?_)
            have cut49 : ∀ (n0 : Nat) (k : Int) (v5 : Int → Int) (v6 : Int → Int) (ls : Array Slot) (H : Heap) (locs : List Loc), (1 ≤ k ∧ k ≤ 3) → (v5 = if k ≤ 1 then u5 else uI u5 c 1) → (v6 = if k ≤ 2 then u6 else uI u6 c 1) → ((3 - k : Int).toNat < n0) → lv_has ls 3 [(0, .ref (tA 0)), (1, .int (iv c)), (2, .int (iv k))] → va_P (dC, dI) vwCl (wT cI cZ cG cR tA pr0 pr1 u2 pr3 (uI u4 c (1000 + c)) v5 v6 t1 t2 ex pt pn tc) H → va_D A0 (wT cI cZ cG cR tA pr0 pr1 u2 pr3 (uI u4 c (1000 + c)) v5 v6 t1 t2 ex pt pn tc) → va_S A0 s0.heap H locs → W p0 l e0 R0 s0 m0 a0 b0 t0 c0 H locs 0 0 Q0 (F0 m0 49 ls []) := by
              intro n0
              induction n0 with
              | zero => intro k v5 v6 ls H locs hk hv5 hv6 hm hl hP hD hS; exact absurd hm (Nat.not_lt_zero _)
              | succ n0 ih49 =>
                intro k v5 v6 ls H locs hk hv5 hv6 hm49 hl hP hD hS
                refine lv_iload_n (pc := 49) gX gB dT_fillFixedProperties_49 rfl (lv_at hl 2 rfl) ?_
                refine lv_iconst (pc := 50) (v := iv 3) gX gB dT_fillFixedProperties_50 rfl ?_
                refine jv_icmp_ge (pc := 51) (tgt := 71) gX gB dT_fillFixedProperties_51 (by decide) (by omega) (by decide) (fun h3 => ?_) (fun h3 => ?_)
                · skip
                  refine jv_iinc (pc := 71) (k := 1) (x := c) (n := 1) (lv' := [(1, .int (iv (c + 1))), (0, .ref (tA 0)), (2, .int (iv k))]) gX gB dT_fillFixedProperties_71 hl rfl (by decide) rfl (fun ls hl => ?_)
                  refine lv_goto (pc := 74) (tgt := 28) gX gB dT_fillFixedProperties_74 (by decide) ?_
                  exact ih28 (c + 1) (uI u4 c (1000 + c)) v5 v6 _ _ _ (by omega) (by intro j a b; rw [hv5, hv6, if_neg (by omega), if_neg (by omega)]; by_cases e : j = c; (rw [e, uI_s, uI_s, uI_s]; exact ⟨rfl, rfl, rfl⟩); (rw [uI_n e, uI_n e, uI_n e]; exact ha4 j a (by omega))) (by intro j a; rw [hv5, hv6, if_neg (by omega), if_neg (by omega), uI_n (by omega), uI_n (by omega), uI_n (by omega)]; exact hb4 j (by omega)) (by omega) (lv_sub hl [1, 0] rfl) hP hD hS
                refine lv_aload_n (pc := 54) gX gB dT_fillFixedProperties_54 rfl (lv_at hl 0 rfl) ?_
                refine va_get (pc := 55) (D := (dC, dI)) (ci := 1) (v := .ref (tA 1)) (C := RT) (T := TT) (N := 7) gX gB hw0 inT hown hK hP 0 rfl rfl 0 (by decide) (hw0 _ q64) (fun _ h9 => h9) rfl dT_fillFixedProperties_55 ?_
                refine lv_iconst (pc := 58) (v := iv 4) gX gB dT_fillFixedProperties_58 rfl ?_
                refine lv_iload_n (pc := 59) gX gB dT_fillFixedProperties_59 rfl (lv_at hl 2 rfl) ?_
                refine jv_iadd (pc := 60) (x := 4) (y := k) gX gB dT_fillFixedProperties_60 ?_
                rcases (show k = 1 ∨ k = 2 by omega) with h4 | h4
                · subst h4
                  refine jv_aald (pc := 61) (v := tA 7) gX gB hK hP 1 2 rfl rfl rfl (by decide) (by decide) rfl dT_fillFixedProperties_61 ?_
                  refine lv_iload_n (pc := 62) gX gB dT_fillFixedProperties_62 rfl (lv_at hl 1 rfl) ?_
                  refine lv_iconst (pc := 63) (v := iv 1) gX gB dT_fillFixedProperties_63 rfl ?_
                  refine jv_iast (pc := 64) (ws' := (wT cI cZ cG cR tA pr0 pr1 u2 pr3 (uI u4 c (1000 + c)) (uI v5 c 1) v6 t1 t2 ex pt pn tc)) gX gB hK hP hD hS 7 0 rfl rfl (by decide) (by omega) dT_fillFixedProperties_64 rfl (fun H locs hP hD hS => ?_)
                  refine jv_iinc (pc := 65) (k := 2) (x := 1) (n := 1) (lv' := [(2, .int (iv (1 + 1))), (0, .ref (tA 0)), (1, .int (iv c))]) gX gB dT_fillFixedProperties_65 hl rfl (by decide) rfl (fun ls hl => ?_)
                  refine lv_goto (pc := 68) (tgt := 49) gX gB dT_fillFixedProperties_68 (by decide) ?_
                  exact ih49 (1 + 1) (uI v5 c 1) v6 _ _ _ (by omega) (by first | (rw [hv5, if_pos (by omega), if_neg (by omega)]) | (rw [hv5, if_neg (by omega), if_neg (by omega)])) (by first | (rw [hv6, if_pos (by omega), if_pos (by omega)]) | (rw [hv6, if_pos (by omega), if_neg (by omega)])) (by omega) (lv_sub hl [1, 2, 0] rfl) hP hD hS
                · subst h4
                  refine jv_aald (pc := 61) (v := tA 8) gX gB hK hP 1 2 rfl rfl rfl (by decide) (by decide) rfl dT_fillFixedProperties_61 ?_
                  refine lv_iload_n (pc := 62) gX gB dT_fillFixedProperties_62 rfl (lv_at hl 1 rfl) ?_
                  refine lv_iconst (pc := 63) (v := iv 1) gX gB dT_fillFixedProperties_63 rfl ?_
                  refine jv_iast (pc := 64) (ws' := (wT cI cZ cG cR tA pr0 pr1 u2 pr3 (uI u4 c (1000 + c)) v5 (uI v6 c 1) t1 t2 ex pt pn tc)) gX gB hK hP hD hS 8 0 rfl rfl (by decide) (by omega) dT_fillFixedProperties_64 rfl (fun H locs hP hD hS => ?_)
                  refine jv_iinc (pc := 65) (k := 2) (x := 2) (n := 1) (lv' := [(2, .int (iv (2 + 1))), (0, .ref (tA 0)), (1, .int (iv c))]) gX gB dT_fillFixedProperties_65 hl rfl (by decide) rfl (fun ls hl => ?_)
                  refine lv_goto (pc := 68) (tgt := 49) gX gB dT_fillFixedProperties_68 (by decide) ?_
                  exact ih49 (2 + 1) v5 (uI v6 c 1) _ _ _ (by omega) (by first | (rw [hv5, if_pos (by omega), if_neg (by omega)]) | (rw [hv5, if_neg (by omega), if_neg (by omega)])) (by first | (rw [hv6, if_pos (by omega), if_pos (by omega)]) | (rw [hv6, if_pos (by omega), if_neg (by omega)])) (by omega) (lv_sub hl [1, 2, 0] rfl) hP hD hS
            exact cut49 (((3 - 1 : Int).toNat) + 1) 1 u5 u6 _ _ _ (by omega) (by rw [if_pos (by omega)]) (by rw [if_pos (by omega)]) (Nat.lt_succ_self _) (lv_sub hl [1, 2, 0] rfl) hP hD hS
        exact cut28 (((48 - 40 : Int).toNat) + 1) 40 pr4 pr5 pr6 _ _ _ (by omega) (by intro j a b; omega) (by intro j _; exact ⟨rfl, rfl, rfl⟩) (Nat.lt_succ_self _) (lv_sub hl [1, 0] rfl) hP hD hS
      refine lv_aload_n (pc := 9) gX gB dT_fillFixedProperties_9 rfl (lv_at hl 0 rfl) ?_
      refine va_get (pc := 10) (D := (dC, dI)) (ci := 1) (v := .ref (tA 1)) (C := RT) (T := TT) (N := 7) gX gB hw0 inT hown hK hP 0 rfl rfl 0 (by decide) (hw0 _ q64) (fun _ h9 => h9) rfl dT_fillFixedProperties_10 ?_
      refine lv_iconst (pc := 13) (v := iv 2) gX gB dT_fillFixedProperties_13 rfl ?_
      refine jv_aald (pc := 14) (v := tA 4) gX gB hK hP 1 2 rfl rfl rfl (by decide) (by decide) rfl dT_fillFixedProperties_14 ?_
      refine lv_iload_n (pc := 15) gX gB dT_fillFixedProperties_15 rfl (lv_at hl 1 rfl) ?_
      refine lv_bipush (pc := 16) (v := iv 10) gX gB dT_fillFixedProperties_16 (by decide) ?_
      refine jv_iast (pc := 18) (ws' := (wT cI cZ cG cR tA pr0 pr1 (uI u2 c 10) pr3 pr4 pr5 pr6 t1 t2 ex pt pn tc)) gX gB hK hP hD hS 4 0 rfl rfl (by decide) (by omega) dT_fillFixedProperties_18 rfl (fun H locs hP hD hS => ?_)
      refine jv_iinc (pc := 19) (k := 1) (x := c) (n := 1) (lv' := [(1, .int (iv (c + 1))), (0, .ref (tA 0))]) gX gB dT_fillFixedProperties_19 hl rfl (by decide) rfl (fun ls hl => ?_)
      refine lv_goto (pc := 22) (tgt := 3) gX gB dT_fillFixedProperties_22 (by decide) ?_
      exact ih3 (c + 1) (uI u2 c 10) _ _ _ (by omega) (by intro j a b; by_cases e : j = c; (rw [uI_e e]); (rw [uI_n e]; exact ha2 j a (by omega))) (by intro j a; rw [uI_n (by omega)]; exact hb2 j a) (by omega) (lv_sub hl [1, 0] rfl) hP hD hS
  exact cut3 (((75 - 40 : Int).toNat) + 1) 40 pr2 _ _ _ (by omega) (by intro j a b; omega) (by intro j a; rfl) (Nat.lt_succ_self _) (lv_sub hl [1, 0] rfl) hP hD hS
