set_option maxRecDepth 100000 in
set_option maxHeartbeats 2000000 in
theorem c_S_resetGaps (l : Launch) (dC : Nat → ClassId) (dI : Nat → Nat → Nat) (cI : ClassId) (cZ : ClassId) (cG : ClassId) (cR : ClassId) (sA : Nat → Nat) (kd : Int → Int) (lw : Int → Int) (od : Int → Int) (tA : Nat → Nat) (pr0 : Int → Int) (pr1 : Int → Int) (pr2 : Int → Int) (pr3 : Int → Int) (pr4 : Int → Int) (pr5 : Int → Int) (pr6 : Int → Int) (t1 : Int → Int) (t2 : Int → Int) (ex : Int → Int) (pt : Int → Int) (pn : Int → Int) (tc : Int → Int) (xa : Nat) (xi : Nat) (xn : Nat) (xs : Int) (xf : Int → Int) (sz : Nat) (b : Int) (hcap : xn < 1000) (hsx : 0 ≤ xs ∧ xs ≤ (xn : Int) ∧ xs ≤ 40) (hxf : ∀ j, 0 ≤ j → j < xs → 0 ≤ xf j ∧ xf j < 75) (hp3 : ∀ c, 0 ≤ c → c < 75 → 0 ≤ pr3 c ∧ pr3 c ≤ 11) : Met l yS_resetGaps wsS_resetGaps ({ frames := 1, cells := 0, slots := 0, locals := 21 }) (va_Pc [.ref (sA 0), .ref (tA 0), .ref xa, .int (iv b)] (jPre (dC, dI) (jT cI cZ cG cR) (wSTR cI cZ cG cR sA kd lw od tA pr0 pr1 pr2 pr3 pr4 pr5 pr6 t1 t2 ex pt pn tc xa xi xn xs xf) sz)) (va_Qv (fun u : (Int → Int) => ∀ j, 0 ≤ j → j < xs → u j = (if gapf pr3 xf (xs - j : Int).toNat j = 1 then b else lw j)) (fun u => jEnd (dC, dI) (jT cI cZ cG cR) (va_A (wSTR cI cZ cG cR sA kd lw od tA pr0 pr1 pr2 pr3 pr4 pr5 pr6 t1 t2 ex pt pn tc xa xi xn xs xf) sz) (wSTR cI cZ cG cR sA kd u od tA pr0 pr1 pr2 pr3 pr4 pr5 pr6 t1 t2 ex pt pn tc xa xi xn xs xf)) (va_A (wSTR cI cZ cG cR sA kd lw od tA pr0 pr1 pr2 pr3 pr4 pr5 pr6 t1 t2 ex pt pn tc xa xi xn xs xf) sz)) 0 0 (va_A (wSTR cI cZ cG cR sA kd lw od tA pr0 pr1 pr2 pr3 pr4 pr5 pr6 t1 t2 ex pt pn tc xa xi xn xs xf) sz) := by
  refine jv_mv (cc := cS_resetGaps) (maxL := 7) (by decide) rfl (Nat.le_of_ble_eq_true rfl) ?_
  intro p0 e0 s0 m0 a0 b0 t0 c0 R0 Q0 A0 ls gX gB hts hown hml hRf hRl hA hK hret hl hP hD hS
  have hown : s0.vm.findClass "TextPipeline$Sides" = some m0.cls := hown
  have hw0 : ∀ w ∈ WS0, w.before a0 s0 = true := fun w h => hts w (List.mem_cons_of_mem _ h)
  have hl : lv_has ls 7 [(0, .ref (sA 0)), (1, .ref (tA 0)), (2, .ref xa), (3, .int (iv b))] := hl
  have hRf : 1 ≤ R0.frames := hRf
  have hRl : 21 ≤ R0.locals := hRl
  refine lv_iconst (pc := 0) (v := iv 1) gX gB dS_resetGaps_0 rfl ?_
  refine lv_istore (pc := 1) (lv' := [(4, .int (iv 1)), (0, .ref (sA 0)), (1, .ref (tA 0)), (2, .ref xa), (3, .int (iv b))]) gX gB dS_resetGaps_1 hl (by decide) rfl (fun ls hl => ?_)
  refine lv_aload_n (pc := 3) gX gB dS_resetGaps_3 rfl (lv_at hl 3 rfl) ?_
  refine jv_ri (pc := 4) (wr := [(sA 0, .inr (4, [.ref (sA 1), .ref (sA 2), .ref (sA 3)])), (sA 1, .inl (cI, 42, .inl (av kd))), (sA 2, .inl (cI, 40, .inl (av lw))), (sA 3, .inl (cI, 40, .inl (av od))), (tA 0, .inr (1, [.ref (tA 1), .ref (tA 9), .ref (tA 10), .ref (tA 11), .ref (tA 12), .ref (tA 13), .ref (tA 14)])), (tA 1, .inl (cG, 7, .inr (.inr (.inr (.inr (rfs [tA 2, tA 3, tA 4, tA 5, tA 6, tA 7, tA 8])))))), (tA 2, .inl (cI, 75, .inl (av pr0))), (tA 3, .inl (cI, 75, .inl (av pr1))), (tA 4, .inl (cI, 75, .inl (av pr2))), (tA 5, .inl (cI, 75, .inl (av pr3))), (tA 6, .inl (cI, 75, .inl (av pr4))), (tA 7, .inl (cI, 75, .inl (av pr5))), (tA 8, .inl (cI, 75, .inl (av pr6))), (tA 9, .inl (cI, 75, .inl (av t1))), (tA 10, .inl (cI, 75, .inl (av t2))), (tA 11, .inl (cZ, 75, .inl (av ex))), (tA 12, .inl (cI, 300, .inl (av pt))), (tA 13, .inl (cI, 75, .inl (av pn))), (tA 14, .inl (cI, 75, .inl (av tc)))]) (wn := fun u : Int => (wSTR cI cZ cG cR sA kd lw od tA pr0 pr1 pr2 pr3 pr4 pr5 pr6 t1 t2 ex pt pn tc xa xi xn xs xf)) (va_runV (rest := []) ⟨gX, gB, hml, hown, hw0⟩ (c_R_size l dC dI cI cZ cG cR xa xi xn xs xf _  ) (jcV hw0 kR_size q517 rfl rfl ⟨Nat.le_trans (Nat.le_of_ble_eq_true rfl) hRf, Nat.le_trans (Nat.le_of_ble_eq_true rfl) hRl⟩) (jv_preV (ci := 2) (q0 := 19) hK hP hD [19, 20] rfl (by decide) rfl rfl) rfl rfl hl.1 rfl (lv_room (Nat.le_of_ble_eq_true rfl)) dS_resetGaps_4 ⟨Nat.zero_le _, Nat.zero_le _⟩) hP hD hS hA [19, 20] [0, 1, 2, 3, 4, 5, 6, 7, 8, 9, 10, 11, 12, 13, 14, 15, 16, 17, 18] [0, 1, 2, 3, 4, 5, 6, 7, 8, 9, 10, 11, 12, 13, 14, 15, 16, 17, 18, 19, 20] rfl rfl (by decide) (by decide) (by decide) (fun _ => rfl) (fun r0 u H locs hw4 hP hD hS => ?_)
  obtain ⟨r_4, hu⟩ : ∃ z, z = u := ⟨_, rfl⟩; subst hu
  obtain ⟨rfl, hw4⟩ := hw4
  refine lv_iconst (pc := 7) (v := iv 1) gX gB dS_resetGaps_7 rfl ?_
  refine jv_isub (pc := 8) (x := r_4) (y := 1) gX gB dS_resetGaps_8 ?_
  refine lv_istore (pc := 9) (lv' := [(5, .int (iv (r_4 - 1))), (4, .int (iv 1)), (0, .ref (sA 0)), (1, .ref (tA 0)), (2, .ref xa), (3, .int (iv b))]) gX gB dS_resetGaps_9 hl (by decide) rfl (fun ls hl => ?_)
  have cut11 : ∀ (n0 : Nat) (be : Int) (i : Int) (g : Int → Int) (ls : Array Slot) (H : Heap) (locs : List Loc), (-1 ≤ i ∧ i ≤ xs - 1) → (be = gapf pr3 xf (xs - (i + 1) : Int).toNat (i + 1)) → (be = 0 ∨ be = 1) → (∀ j, 0 ≤ j → j ≤ i → g j = lw j) → (∀ j, i < j → j < xs → g j = (if gapf pr3 xf (xs - j : Int).toNat j = 1 then b else lw j)) → ((i + 1 : Int).toNat < n0) → lv_has ls 7 [(0, .ref (sA 0)), (1, .ref (tA 0)), (2, .ref xa), (3, .int (iv b)), (4, .int (iv be)), (5, .int (iv i))] → va_P (dC, dI) vwCl (wSTR cI cZ cG cR sA kd g od tA pr0 pr1 pr2 pr3 pr4 pr5 pr6 t1 t2 ex pt pn tc xa xi xn xs xf) H → va_D A0 (wSTR cI cZ cG cR sA kd g od tA pr0 pr1 pr2 pr3 pr4 pr5 pr6 t1 t2 ex pt pn tc xa xi xn xs xf) → va_S A0 s0.heap H locs → W p0 l e0 R0 s0 m0 a0 b0 t0 c0 H locs 0 0 Q0 (F0 m0 11 ls []) := by
    intro n0
    induction n0 with
    | zero => intro be i g ls H locs hi hbe hb01 hlo hhi hm hl hP hD hS; exact absurd hm (Nat.not_lt_zero _)
    | succ n0 ih11 =>
      intro be i g ls H locs hi hbe hb01 hlo hhi hm11 hl hP hD hS
      have rgbe : -2147483648 ≤ be ∧ be < 2147483648 := by rcases hb01 with z | z <;> (rw [z]; decide)
      refine lv_iload (pc := 11) gX gB dS_resetGaps_11 (lv_at hl 5 rfl) ?_
      refine jv_if_lt (pc := 13) (tgt := 73) gX gB dS_resetGaps_13 (by decide) (by omega) (fun h1 => ?_) (fun h1 => ?_)
      · skip
        exact hret (g) dS_resetGaps_73 (by exact fun j a b => hhi j (by omega) b) hP hD hS
      have hxi := hxf i (by omega) (by omega)
      have hci := hp3 _ hxi.1 hxi.2
      have hgp := gapf_s (sz := pr3) (tx := xf) (d := xs - i) (i := i) (by omega)
      rw [show xs - i - 1 = xs - (i + 1) by omega, ← hbe] at hgp
      refine lv_aload_n (pc := 16) gX gB dS_resetGaps_16 rfl (lv_at hl 1 rfl) ?_
      refine lv_aload_n (pc := 17) gX gB dS_resetGaps_17 rfl (lv_at hl 2 rfl) ?_
      refine lv_iload (pc := 18) gX gB dS_resetGaps_18 (lv_at hl 5 rfl) ?_
      refine jv_ri (pc := 20) (wr := [(sA 0, .inr (4, [.ref (sA 1), .ref (sA 2), .ref (sA 3)])), (sA 1, .inl (cI, 42, .inl (av kd))), (sA 2, .inl (cI, 40, .inl (av g))), (sA 3, .inl (cI, 40, .inl (av od))), (tA 0, .inr (1, [.ref (tA 1), .ref (tA 9), .ref (tA 10), .ref (tA 11), .ref (tA 12), .ref (tA 13), .ref (tA 14)])), (tA 1, .inl (cG, 7, .inr (.inr (.inr (.inr (rfs [tA 2, tA 3, tA 4, tA 5, tA 6, tA 7, tA 8])))))), (tA 2, .inl (cI, 75, .inl (av pr0))), (tA 3, .inl (cI, 75, .inl (av pr1))), (tA 4, .inl (cI, 75, .inl (av pr2))), (tA 5, .inl (cI, 75, .inl (av pr3))), (tA 6, .inl (cI, 75, .inl (av pr4))), (tA 7, .inl (cI, 75, .inl (av pr5))), (tA 8, .inl (cI, 75, .inl (av pr6))), (tA 9, .inl (cI, 75, .inl (av t1))), (tA 10, .inl (cI, 75, .inl (av t2))), (tA 11, .inl (cZ, 75, .inl (av ex))), (tA 12, .inl (cI, 300, .inl (av pt))), (tA 13, .inl (cI, 75, .inl (av pn))), (tA 14, .inl (cI, 75, .inl (av tc)))]) (wn := fun u : Int => (wSTR cI cZ cG cR sA kd g od tA pr0 pr1 pr2 pr3 pr4 pr5 pr6 t1 t2 ex pt pn tc xa xi xn xs xf)) (va_runV (rest := [.ref (tA 0)]) ⟨gX, gB, hml, hown, hw0⟩ (c_R_item l dC dI cI cZ cG cR xa xi xn xs xf _ i (by omega) (by omega)) (jcV hw0 kR_item q521 rfl rfl ⟨Nat.le_trans (Nat.le_of_ble_eq_true rfl) hRf, Nat.le_trans (Nat.le_of_ble_eq_true rfl) hRl⟩) (jv_preV (ci := 2) (q0 := 19) hK hP hD [19, 20] rfl (by decide) rfl rfl) rfl rfl hl.1 rfl (lv_room (Nat.le_of_ble_eq_true rfl)) dS_resetGaps_20 ⟨Nat.zero_le _, Nat.zero_le _⟩) hP hD hS hA [19, 20] [0, 1, 2, 3, 4, 5, 6, 7, 8, 9, 10, 11, 12, 13, 14, 15, 16, 17, 18] [0, 1, 2, 3, 4, 5, 6, 7, 8, 9, 10, 11, 12, 13, 14, 15, 16, 17, 18, 19, 20] rfl rfl (by decide) (by decide) (by decide) (fun _ => rfl) (fun r0 u H locs hw20 hP hD hS => ?_)
      obtain ⟨r_20, hu⟩ : ∃ z, z = u := ⟨_, rfl⟩; subst hu
      obtain ⟨rfl, hw20⟩ := hw20
      refine jv_ri (pc := 23) (wr := [(sA 0, .inr (4, [.ref (sA 1), .ref (sA 2), .ref (sA 3)])), (sA 1, .inl (cI, 42, .inl (av kd))), (sA 2, .inl (cI, 40, .inl (av g))), (sA 3, .inl (cI, 40, .inl (av od))), (xa, .inr (2, [.ref xi, .int (iv xs)])), (xi, .inl (cI, xn, .inl (av xf)))]) (wn := fun u : Int => (wSTR cI cZ cG cR sA kd g od tA pr0 pr1 pr2 pr3 pr4 pr5 pr6 t1 t2 ex pt pn tc xa xi xn xs xf)) (va_runV (rest := []) ⟨gX, gB, hml, hown, hw0⟩ (c_T_sideClass l dC dI cI cZ cG cR tA pr0 pr1 pr2 pr3 pr4 pr5 pr6 t1 t2 ex pt pn tc _ r_20 (by rw [hw20]; exact hxi)) (jcV hw0 kT_sideClass q522 rfl rfl ⟨Nat.le_trans (Nat.le_of_ble_eq_true rfl) hRf, Nat.le_trans (Nat.le_of_ble_eq_true rfl) hRl⟩) (jv_preV (ci := 1) (q0 := 4) hK hP hD [4, 5, 6, 7, 8, 9, 10, 11, 12, 13, 14, 15, 16, 17, 18] rfl (by decide) rfl rfl) rfl rfl hl.1 rfl (lv_room (Nat.le_of_ble_eq_true rfl)) dS_resetGaps_23 ⟨Nat.zero_le _, Nat.zero_le _⟩) hP hD hS hA [4, 5, 6, 7, 8, 9, 10, 11, 12, 13, 14, 15, 16, 17, 18] [0, 1, 2, 3, 19, 20] [0, 1, 2, 3, 6, 7, 8, 9, 10, 11, 12, 13, 14, 15, 16, 17, 18, 19, 20, 4, 5] rfl rfl (by decide) (by decide) (by decide) (fun _ => rfl) (fun r0 u H locs hw23 hP hD hS => ?_)
      obtain ⟨r_23, hu⟩ : ∃ z, z = u := ⟨_, rfl⟩; subst hu
      obtain ⟨rfl, hw23⟩ := hw23
      have hr23 : r_23 = pr3 (xf i) := by rw [hw23, hw20]
      refine lv_istore (pc := 26) (lv' := [(6, .int (iv r_23)), (0, .ref (sA 0)), (1, .ref (tA 0)), (2, .ref xa), (3, .int (iv b)), (4, .int (iv be)), (5, .int (iv i))]) gX gB dS_resetGaps_26 hl (by decide) rfl (fun ls hl => ?_)
      have cut52 : ∀ (b2 : Int) (ls : Array Slot) (H : Heap) (locs : List Loc), (b2 = gapf pr3 xf (xs - i : Int).toNat i) → (b2 = 0 ∨ b2 = 1) → lv_has ls 7 [(0, .ref (sA 0)), (1, .ref (tA 0)), (2, .ref xa), (3, .int (iv b)), (5, .int (iv i))] → va_P (dC, dI) vwCl (wSTR cI cZ cG cR sA kd g od tA pr0 pr1 pr2 pr3 pr4 pr5 pr6 t1 t2 ex pt pn tc xa xi xn xs xf) H → va_D A0 (wSTR cI cZ cG cR sA kd g od tA pr0 pr1 pr2 pr3 pr4 pr5 pr6 t1 t2 ex pt pn tc xa xi xn xs xf) → va_S A0 s0.heap H locs → W p0 l e0 R0 s0 m0 a0 b0 t0 c0 H locs 0 0 Q0 (F0 m0 52 ls [.int (iv b2)]) := by
        intro b2 ls H locs hb2 hb3 hl hP hD hS
        refine lv_istore (pc := 52) (lv' := [(4, .int (iv b2)), (0, .ref (sA 0)), (1, .ref (tA 0)), (2, .ref xa), (3, .int (iv b)), (5, .int (iv i))]) gX gB dS_resetGaps_52 hl (by decide) rfl (fun ls hl => ?_)
        have rgb : -2147483648 ≤ b2 ∧ b2 < 2147483648 := by rcases hb3 with z | z <;> (rw [z]; decide)
        have cut67 : ∀ (g2 : Int → Int) (ls : Array Slot) (H : Heap) (locs : List Loc), (g2 i = (if gapf pr3 xf (xs - i : Int).toNat i = 1 then b else lw i)) → (∀ j, j ≠ i → g2 j = g j) → lv_has ls 7 [(0, .ref (sA 0)), (1, .ref (tA 0)), (2, .ref xa), (3, .int (iv b)), (4, .int (iv b2)), (5, .int (iv i))] → va_P (dC, dI) vwCl (wSTR cI cZ cG cR sA kd g2 od tA pr0 pr1 pr2 pr3 pr4 pr5 pr6 t1 t2 ex pt pn tc xa xi xn xs xf) H → va_D A0 (wSTR cI cZ cG cR sA kd g2 od tA pr0 pr1 pr2 pr3 pr4 pr5 pr6 t1 t2 ex pt pn tc xa xi xn xs xf) → va_S A0 s0.heap H locs → W p0 l e0 R0 s0 m0 a0 b0 t0 c0 H locs 0 0 Q0 (F0 m0 67 ls []) := by
          intro g2 ls H locs hgi hgo hl hP hD hS
          refine jv_idec (pc := 67) (k := 5) (x := i) (n := (-1)) (d := 1) (lv' := [(5, .int (iv (i - 1))), (0, .ref (sA 0)), (1, .ref (tA 0)), (2, .ref xa), (3, .int (iv b)), (4, .int (iv b2))]) gX gB dS_resetGaps_67 (by decide) hl rfl (by decide) rfl (fun ls hl => ?_)
          refine lv_goto (pc := 70) (tgt := 11) gX gB dS_resetGaps_70 (by decide) ?_
          exact ih11 b2 (i - 1) g2 _ _ _ (by omega) (by rw [hb2, show i - 1 + 1 = i by omega]) (by exact hb3) (by intro j a b; rw [hgo j (by omega)]; exact hlo j a (by omega)) (by intro j a b; by_cases e : j = i; (rw [e]; exact hgi); (rw [hgo j e]; exact hhi j (by omega) b)) (by omega) (lv_sub hl [1, 2, 3, 4, 5, 0] rfl) hP hD hS
        refine lv_iload (pc := 54) gX gB dS_resetGaps_54 (lv_at hl 0 rfl) ?_
        refine jv_if_eq (pc := 56) (tgt := 67) gX gB dS_resetGaps_56 (by decide) rgb (fun h2 => ?_) (fun h2 => ?_)
        · skip
          exact cut67 g _ _ _ (by rw [← hb2, if_neg (by omega)]; exact hlo i (by omega) (by omega)) (by intro j _; rfl) (lv_sub hl [1, 2, 3, 4, 0, 5] rfl) hP hD hS
        refine lv_aload_n (pc := 59) gX gB dS_resetGaps_59 rfl (lv_at hl 1 rfl) ?_
        refine va_get (pc := 60) (D := (dC, dI)) (ci := 4) (v := .ref (sA 2)) (C := RS) (T := TS) (N := 3) gX gB hw0 inS hown hK hP 0 rfl rfl 1 (by decide) (hw0 _ q119) (fun _ h9 => h9) rfl dS_resetGaps_60 ?_
        refine lv_iload (pc := 63) gX gB dS_resetGaps_63 (lv_at hl 5 rfl) ?_
        refine lv_iload_n (pc := 65) gX gB dS_resetGaps_65 rfl (lv_at hl 4 rfl) ?_
        refine jv_iast (pc := 66) (ws' := (wSTR cI cZ cG cR sA kd (uI g i b) od tA pr0 pr1 pr2 pr3 pr4 pr5 pr6 t1 t2 ex pt pn tc xa xi xn xs xf)) gX gB hK hP hD hS 2 0 rfl rfl (by decide) (by omega) dS_resetGaps_66 rfl (fun H locs hP hD hS => ?_)
        exact cut67 (uI g i b) _ _ _ (by rw [← hb2, if_pos (hb3.resolve_left (by assumption)), uI_s]) (by intro j z; exact uI_n z) (lv_sub hl [1, 2, 3, 4, 0, 5] rfl) hP hD hS
      refine lv_iload (pc := 28) gX gB dS_resetGaps_28 (lv_at hl 0 rfl) ?_
      refine lv_bipush (pc := 30) (v := iv 10) gX gB dS_resetGaps_30 (by decide) ?_
      refine jv_icmp_eq (pc := 32) (tgt := 47) gX gB dS_resetGaps_32 (by decide) (by omega) (by decide) (fun h3 => ?_) (fun h3 => ?_)
      · skip
        refine lv_iconst (pc := 47) (v := iv 1) gX gB dS_resetGaps_47 rfl ?_
        refine lv_goto (pc := 48) (tgt := 52) gX gB dS_resetGaps_48 (by decide) ?_
        exact cut52 1 _ _ _ (by rw [hgp, if_pos (by first | exact Or.inl (by omega) | exact Or.inr ⟨by omega, hb01.resolve_left (by assumption)⟩)]) (by exact Or.inr rfl) (lv_sub hl [1, 2, 3, 4, 6] rfl) hP hD hS
      refine lv_iload (pc := 35) gX gB dS_resetGaps_35 (lv_at hl 0 rfl) ?_
      refine lv_bipush (pc := 37) (v := iv 9) gX gB dS_resetGaps_37 (by decide) ?_
      refine jv_icmp_ne (pc := 39) (tgt := 51) gX gB dS_resetGaps_39 (by decide) (by omega) (by decide) (fun h4 => ?_) (fun h4 => ?_)
      · skip
        refine lv_iconst (pc := 51) (v := iv 0) gX gB dS_resetGaps_51 rfl ?_
        exact cut52 0 _ _ _ (by rw [hgp, if_neg (fun z => by rcases z with z | ⟨z1, z2⟩ <;> omega)]) (by exact Or.inl rfl) (lv_sub hl [1, 2, 3, 4, 6] rfl) hP hD hS
      refine lv_iload (pc := 42) gX gB dS_resetGaps_42 (lv_at hl 5 rfl) ?_
      refine jv_if_eq (pc := 44) (tgt := 51) gX gB dS_resetGaps_44 (by decide) rgbe (fun h5 => ?_) (fun h5 => ?_)
      · skip
        refine lv_iconst (pc := 51) (v := iv 0) gX gB dS_resetGaps_51 rfl ?_
        exact cut52 0 _ _ _ (by rw [hgp, if_neg (fun z => by rcases z with z | ⟨z1, z2⟩ <;> omega)]) (by exact Or.inl rfl) (lv_sub hl [1, 2, 3, 4, 6] rfl) hP hD hS
      refine lv_iconst (pc := 47) (v := iv 1) gX gB dS_resetGaps_47 rfl ?_
      refine lv_goto (pc := 48) (tgt := 52) gX gB dS_resetGaps_48 (by decide) ?_
      exact cut52 1 _ _ _ (by rw [hgp, if_pos (by first | exact Or.inl (by omega) | exact Or.inr ⟨by omega, hb01.resolve_left (by assumption)⟩)]) (by exact Or.inr rfl) (lv_sub hl [1, 2, 3, 4, 6] rfl) hP hD hS
  exact cut11 ((((r_4 - 1) + 1 : Int).toNat) + 1) 1 (r_4 - 1) lw _ _ _ (by omega) (by rw [hw4, show xs - (xs - 1 + 1) = 0 by omega]; rfl) (by exact Or.inr rfl) (by intro j a b; rfl) (by intro j a b; omega) (Nat.lt_succ_self _) (lv_sub hl [2, 3, 4, 5, 1, 0] rfl) hP hD hS
set_option maxRecDepth 100000 in
set_option maxHeartbeats 2000000 in
theorem c_S_turnRound (l : Launch) (dC : Nat → ClassId) (dI : Nat → Nat → Nat) (cI : ClassId) (cZ : ClassId) (cG : ClassId) (cR : ClassId) (sA : Nat → Nat) (kd : Int → Int) (lw : Int → Int) (od : Int → Int) (sz : Nat) (st : Int) (la : Int) (hsl : 0 ≤ st ∧ st ≤ la + 1 ∧ la < 40) : Met l yS_turnRound wsS_turnRound ({ frames := 0, cells := 0, slots := 0, locals := 0 }) (va_Pc [.ref (sA 0), .int (iv st), .int (iv la)] (jPre (dC, dI) (jT cI cZ cG cR) (wS cI cZ cG cR sA kd lw od) sz)) (va_Qv (fun u : (Int → Int) => ∀ j, u j = if st ≤ j ∧ j < la + 1 then od (st + (la + 1) - 1 - j) else od j) (fun u => jEnd (dC, dI) (jT cI cZ cG cR) (va_A (wS cI cZ cG cR sA kd lw od) sz) (wS cI cZ cG cR sA kd lw u)) (va_A (wS cI cZ cG cR sA kd lw od) sz)) 0 0 (va_A (wS cI cZ cG cR sA kd lw od) sz) := by
  refine jv_mv (cc := cS_turnRound) (maxL := 6) (by decide) rfl (Nat.le_of_ble_eq_true rfl) ?_
  intro p0 e0 s0 m0 a0 b0 t0 c0 R0 Q0 A0 ls gX gB hts hown hml hRf hRl hA hK hret hl hP hD hS
  have hown : s0.vm.findClass "TextPipeline$Sides" = some m0.cls := hown
  have hw0 : ∀ w ∈ WS0, w.before a0 s0 = true := fun w h => hts w (List.mem_cons_of_mem _ h)
  have hl : lv_has ls 6 [(0, .ref (sA 0)), (1, .int (iv st)), (2, .int (iv la))] := hl
  have hRf : 0 ≤ R0.frames := hRf
  have hRl : 0 ≤ R0.locals := hRl
  refine lv_iload_n (pc := 0) gX gB dS_turnRound_0 rfl (lv_at hl 1 rfl) ?_
  refine lv_istore_n (pc := 1) (lv' := [(3, .int (iv st)), (0, .ref (sA 0)), (1, .int (iv st)), (2, .int (iv la))]) gX gB dS_turnRound_1 rfl hl (by decide) rfl (fun ls hl => ?_)
  refine lv_iload_n (pc := 2) gX gB dS_turnRound_2 rfl (lv_at hl 3 rfl) ?_
  refine lv_istore (pc := 3) (lv' := [(4, .int (iv la)), (3, .int (iv st)), (0, .ref (sA 0)), (1, .int (iv st)), (2, .int (iv la))]) gX gB dS_turnRound_3 hl (by decide) rfl (fun ls hl => ?_)
  have cut5 : ∀ (n0 : Nat) (a : Int) (b : Int) (o : Int → Int) (ls : Array Slot) (H : Heap) (locs : List Loc), (st ≤ a ∧ a ≤ la + 1 ∧ b = st + la - a ∧ a ≤ b + 2) → (∀ j, o j = if (st ≤ j ∧ j < a) ∨ (b < j ∧ j < la + 1) then od (st + la - j) else od j) → ((b - a + 1 : Int).toNat < n0) → lv_has ls 6 [(0, .ref (sA 0)), (3, .int (iv a)), (4, .int (iv b))] → va_P (dC, dI) vwCl (wS cI cZ cG cR sA kd lw o) H → va_D A0 (wS cI cZ cG cR sA kd lw o) → va_S A0 s0.heap H locs → W p0 l e0 R0 s0 m0 a0 b0 t0 c0 H locs 0 0 Q0 (F0 m0 5 ls []) := by
    intro n0
    induction n0 with
    | zero => intro a b o ls H locs hab hq hm hl hP hD hS; exact absurd hm (Nat.not_lt_zero _)
    | succ n0 ih5 =>
      intro a b o ls H locs hab hq hm5 hl hP hD hS
      refine lv_iload_n (pc := 5) gX gB dS_turnRound_5 rfl (lv_at hl 1 rfl) ?_
      refine lv_iload (pc := 6) gX gB dS_turnRound_6 (lv_at hl 2 rfl) ?_
      refine jv_icmp_ge (pc := 8) (tgt := 50) gX gB dS_turnRound_8 (by decide) (by omega) (by omega) (fun h1 => ?_) (fun h1 => ?_)
      · skip
        exact hret (o) dS_turnRound_50 (by intro j; rw [hq j]; by_cases c : (st ≤ j ∧ j < a) ∨ (b < j ∧ j < la + 1); (rw [if_pos c, if_pos (by omega)]; congr 1; omega); (rw [if_neg c]; by_cases d : st ≤ j ∧ j < la + 1; (rw [if_pos d]; congr 1; omega); (rw [if_neg d]))) hP hD hS
      refine lv_aload_n (pc := 11) gX gB dS_turnRound_11 rfl (lv_at hl 0 rfl) ?_
      refine va_get (pc := 12) (D := (dC, dI)) (ci := 4) (v := .ref (sA 3)) (C := RS) (T := TS) (N := 3) gX gB hw0 inS hown hK hP 0 rfl rfl 2 (by decide) (hw0 _ q120) (fun _ h9 => h9) rfl dS_turnRound_12 ?_
      refine lv_iload_n (pc := 15) gX gB dS_turnRound_15 rfl (lv_at hl 1 rfl) ?_
      refine jv_iald (pc := 16) gX gB hK hP 3 0 rfl rfl (by decide) (by omega) dS_turnRound_16 ?_
      refine lv_istore (pc := 17) (lv' := [(5, .int (iv (o a))), (0, .ref (sA 0)), (3, .int (iv a)), (4, .int (iv b))]) gX gB dS_turnRound_17 hl (by decide) rfl (fun ls hl => ?_)
      refine lv_aload_n (pc := 19) gX gB dS_turnRound_19 rfl (lv_at hl 1 rfl) ?_
      refine va_get (pc := 20) (D := (dC, dI)) (ci := 4) (v := .ref (sA 3)) (C := RS) (T := TS) (N := 3) gX gB hw0 inS hown hK hP 0 rfl rfl 2 (by decide) (hw0 _ q120) (fun _ h9 => h9) rfl dS_turnRound_20 ?_
      refine lv_iload_n (pc := 23) gX gB dS_turnRound_23 rfl (lv_at hl 2 rfl) ?_
      refine lv_aload_n (pc := 24) gX gB dS_turnRound_24 rfl (lv_at hl 1 rfl) ?_
      refine va_get (pc := 25) (D := (dC, dI)) (ci := 4) (v := .ref (sA 3)) (C := RS) (T := TS) (N := 3) gX gB hw0 inS hown hK hP 0 rfl rfl 2 (by decide) (hw0 _ q120) (fun _ h9 => h9) rfl dS_turnRound_25 ?_
      refine lv_iload (pc := 28) gX gB dS_turnRound_28 (lv_at hl 3 rfl) ?_
      refine jv_iald (pc := 30) gX gB hK hP 3 0 rfl rfl (by decide) (by omega) dS_turnRound_30 ?_
      refine jv_iast (pc := 31) (ws' := (wS cI cZ cG cR sA kd lw (uI o a (o b)))) gX gB hK hP hD hS 3 0 rfl rfl (by decide) (by omega) dS_turnRound_31 rfl (fun H locs hP hD hS => ?_)
      refine lv_aload_n (pc := 32) gX gB dS_turnRound_32 rfl (lv_at hl 1 rfl) ?_
      refine va_get (pc := 33) (D := (dC, dI)) (ci := 4) (v := .ref (sA 3)) (C := RS) (T := TS) (N := 3) gX gB hw0 inS hown hK hP 0 rfl rfl 2 (by decide) (hw0 _ q120) (fun _ h9 => h9) rfl dS_turnRound_33 ?_
      refine lv_iload (pc := 36) gX gB dS_turnRound_36 (lv_at hl 3 rfl) ?_
      refine lv_iload (pc := 38) gX gB dS_turnRound_38 (lv_at hl 0 rfl) ?_
      refine jv_iast (pc := 40) (ws' := (wS cI cZ cG cR sA kd lw (uI (uI o a (o b)) b (o a)))) gX gB hK hP hD hS 3 0 rfl rfl (by decide) (by omega) dS_turnRound_40 rfl (fun H locs hP hD hS => ?_)
      refine jv_iinc (pc := 41) (k := 2) (x := a) (n := 1) (lv' := [(3, .int (iv (a + 1))), (5, .int (iv (o a))), (0, .ref (sA 0)), (4, .int (iv b))]) gX gB dS_turnRound_41 hl rfl (by decide) rfl (fun ls hl => ?_)
      refine jv_idec (pc := 44) (k := 3) (x := b) (n := (-1)) (d := 1) (lv' := [(4, .int (iv (b - 1))), (3, .int (iv (a + 1))), (5, .int (iv (o a))), (0, .ref (sA 0))]) gX gB dS_turnRound_44 (by decide) hl rfl (by decide) rfl (fun ls hl => ?_)
      refine lv_goto (pc := 47) (tgt := 5) gX gB dS_turnRound_47 (by decide) ?_
      exact ih5 (a + 1) (b - 1) (uI (uI o a (o b)) b (o a)) _ _ _ (by omega) (by intro j; by_cases e1 : j = b; (rw [uI_e e1, hq a, if_neg (by omega), if_pos (by omega)]; congr 1; omega); (rw [uI_n e1]; by_cases e2 : j = a; (rw [uI_e e2, hq b, if_neg (by omega), if_pos (by omega)]; congr 1; omega); (rw [uI_n e2, hq j]; by_cases c : (st ≤ j ∧ j < a) ∨ (b < j ∧ j < la + 1); (rw [if_pos c, if_pos (by omega)]); (rw [if_neg c, if_neg (by omega)])))) (by omega) (lv_sub hl [3, 1, 0] rfl) hP hD hS
  exact cut5 (((la - st + 1 : Int).toNat) + 1) st la od _ _ _ (by omega) (by intro j; rw [if_neg (by omega)]) (Nat.lt_succ_self _) (lv_sub hl [2, 1, 0] rfl) hP hD hS
set_option maxRecDepth 100000 in
set_option maxHeartbeats 4000000 in
theorem c_S_turnRows (l : Launch) (dC : Nat → ClassId) (dI : Nat → Nat → Nat) (cI : ClassId) (cZ : ClassId) (cG : ClassId) (cR : ClassId) (sA : Nat → Nat) (kd : Int → Int) (lw : Int → Int) (od : Int → Int) (sz : Nat) (n : Int) (lv : Int) (hn9 : 0 ≤ n ∧ n ≤ 40) (hlv : 1 ≤ lv ∧ lv ≤ 2) (hlw : ∀ j, 0 ≤ j → j < n → 0 ≤ lw j ∧ lw j ≤ 2) : Met l yS_turnRows wsS_turnRows ({ frames := 1, cells := 0, slots := 0, locals := 25 }) (va_Pc [.ref (sA 0), .int (iv n), .int (iv lv)] (jPre (dC, dI) (jT cI cZ cG cR) (wS cI cZ cG cR sA kd lw od) sz)) (va_Qv (fun u : (Int → Int) => ∀ j, 0 ≤ j → j < n → u j = rvf (pg lv lw) n od j) (fun u => jEnd (dC, dI) (jT cI cZ cG cR) (va_A (wS cI cZ cG cR sA kd lw od) sz) (wS cI cZ cG cR sA kd lw u)) (va_A (wS cI cZ cG cR sA kd lw od) sz)) 0 0 (va_A (wS cI cZ cG cR sA kd lw od) sz) := by
  refine jv_mv (cc := cS_turnRows) (maxL := 5) (by decide) rfl (Nat.le_of_ble_eq_true rfl) ?_
  intro p0 e0 s0 m0 a0 b0 t0 c0 R0 Q0 A0 ls gX gB hts hown hml hRf hRl hA hK hret hl hP hD hS
  have hown : s0.vm.findClass "TextPipeline$Sides" = some m0.cls := hown
  have hw0 : ∀ w ∈ WS0, w.before a0 s0 = true := fun w h => hts w (List.mem_cons_of_mem _ h)
  have hl : lv_has ls 5 [(0, .ref (sA 0)), (1, .int (iv n)), (2, .int (iv lv))] := hl
  have hRf : 1 ≤ R0.frames := hRf
  have hRl : 25 ≤ R0.locals := hRl
  refine lv_iconst (pc := 0) (v := iv 0) gX gB dS_turnRows_0 rfl ?_
  refine lv_istore_n (pc := 1) (lv' := [(3, .int (iv 0)), (0, .ref (sA 0)), (1, .int (iv n)), (2, .int (iv lv))]) gX gB dS_turnRows_1 rfl hl (by decide) rfl (fun ls hl => ?_)
  refine lv_iconst (pc := 2) (v := iv 0) gX gB dS_turnRows_2 rfl ?_
  refine lv_istore (pc := 3) (lv' := [(4, .int (iv 0)), (3, .int (iv 0)), (0, .ref (sA 0)), (1, .int (iv n)), (2, .int (iv lv))]) gX gB dS_turnRows_3 hl (by decide) rfl (fun ls hl => ?_)
  have cut5 : ∀ (n0 : Nat) (st : Int) (i : Int) (o : Int → Int) (ls : Array Slot) (H : Heap) (locs : List Loc), (0 ≤ st ∧ st ≤ i ∧ i ≤ n) → ((RVS (pg lv lw) n od st o ∧ st ≤ i ∧ (∀ j, st ≤ j → j < i → (pg lv lw) j = true) ∧ (st = 0 ∨ (pg lv lw) (st - 1) = false) ∧ (st < i → i < n ∧ (pg lv lw) i = true)) ∨ (RVS (pg lv lw) n od i o ∧ (i = n ∨ (pg lv lw) i = false) ∧ st ≤ i)) → ((n - i : Int).toNat < n0) → lv_has ls 5 [(0, .ref (sA 0)), (1, .int (iv n)), (2, .int (iv lv)), (3, .int (iv st)), (4, .int (iv i))] → va_P (dC, dI) vwCl (wS cI cZ cG cR sA kd lw o) H → va_D A0 (wS cI cZ cG cR sA kd lw o) → va_S A0 s0.heap H locs → W p0 l e0 R0 s0 m0 a0 b0 t0 c0 H locs 0 0 Q0 (F0 m0 5 ls []) := by
    intro n0
    induction n0 with
    | zero => intro st i o ls H locs hi hI hm hl hP hD hS; exact absurd hm (Nat.not_lt_zero _)
    | succ n0 ih5 =>
      intro st i o ls H locs hi hI hm5 hl hP hD hS
      refine lv_iload (pc := 5) gX gB dS_turnRows_5 (lv_at hl 4 rfl) ?_
      refine lv_iload_n (pc := 7) gX gB dS_turnRows_7 rfl (lv_at hl 1 rfl) ?_
      refine jv_icmp_ge (pc := 8) (tgt := 64) gX gB dS_turnRows_8 (by decide) (by omega) (by omega) (fun h1 => ?_) (fun h1 => ?_)
      · skip
        exact hret (o) dS_turnRows_64 (by intro j a b; rcases hI with ⟨z1, z2, z3, z4, z5⟩ | z; (rcases (show st = i ∨ st < i by omega) with y | y; (exact z1.1 j a (by omega)); (have q := (z5 y).1; omega)); (exact z.1.1 j a (by omega))) hP hD hS
      have hli := hlw i (by omega) (by omega)
      have cut58 : ∀ (s2 : Int) (o2 : Int → Int) (ls : Array Slot) (H : Heap) (locs : List Loc), (0 ≤ s2 ∧ s2 ≤ i + 1) → ((RVS (pg lv lw) n od s2 o2 ∧ s2 ≤ (i + 1) ∧ (∀ j, s2 ≤ j → j < (i + 1) → (pg lv lw) j = true) ∧ (s2 = 0 ∨ (pg lv lw) (s2 - 1) = false) ∧ (s2 < (i + 1) → (i + 1) < n ∧ (pg lv lw) (i + 1) = true)) ∨ (RVS (pg lv lw) n od (i + 1) o2 ∧ ((i + 1) = n ∨ (pg lv lw) (i + 1) = false) ∧ s2 ≤ (i + 1))) → lv_has ls 5 [(0, .ref (sA 0)), (1, .int (iv n)), (2, .int (iv lv)), (3, .int (iv s2)), (4, .int (iv i))] → va_P (dC, dI) vwCl (wS cI cZ cG cR sA kd lw o2) H → va_D A0 (wS cI cZ cG cR sA kd lw o2) → va_S A0 s0.heap H locs → W p0 l e0 R0 s0 m0 a0 b0 t0 c0 H locs 0 0 Q0 (F0 m0 58 ls []) := by
        intro s2 o2 ls H locs hi2 hI2 hl hP hD hS
        refine jv_iinc (pc := 58) (k := 4) (x := i) (n := 1) (lv' := [(4, .int (iv (i + 1))), (0, .ref (sA 0)), (1, .int (iv n)), (2, .int (iv lv)), (3, .int (iv s2))]) gX gB dS_turnRows_58 hl rfl (by decide) rfl (fun ls hl => ?_)
        refine lv_goto (pc := 61) (tgt := 5) gX gB dS_turnRows_61 (by decide) ?_
        exact ih5 s2 (i + 1) o2 _ _ _ (by omega) (by exact hI2) (by omega) (lv_sub hl [1, 2, 3, 4, 0] rfl) hP hD hS
      refine lv_aload_n (pc := 11) gX gB dS_turnRows_11 rfl (lv_at hl 0 rfl) ?_
      refine va_get (pc := 12) (D := (dC, dI)) (ci := 4) (v := .ref (sA 2)) (C := RS) (T := TS) (N := 3) gX gB hw0 inS hown hK hP 0 rfl rfl 1 (by decide) (hw0 _ q119) (fun _ h9 => h9) rfl dS_turnRows_12 ?_
      refine lv_iload (pc := 15) gX gB dS_turnRows_15 (lv_at hl 4 rfl) ?_
      refine jv_iald (pc := 17) gX gB hK hP 2 0 rfl rfl (by decide) (by omega) dS_turnRows_17 ?_
      refine lv_iload_n (pc := 18) gX gB dS_turnRows_18 rfl (lv_at hl 2 rfl) ?_
      refine jv_icmp_ge (pc := 19) (tgt := 30) gX gB dS_turnRows_19 (by decide) (by omega) (by omega) (fun h2 => ?_) (fun h2 => ?_)
      · skip
        have hPt : (pg lv lw) i = true := decide_eq_true (by omega)
        have hAA : RVS (pg lv lw) n od st o ∧ st ≤ i ∧ (∀ j, st ≤ j → j < i → (pg lv lw) j = true) ∧ (st = 0 ∨ (pg lv lw) (st - 1) = false) := by rcases hI with ⟨z1, z2, z3, z4, z5⟩ | z; (exact ⟨z1, z2, z3, z4⟩); (rcases z.2.1 with y | y; omega; (rw [hPt] at y; cases y))
        have hrun : ∀ j, st ≤ j → j < i + 1 → (pg lv lw) j = true := fun j p q => by by_cases e : j = i; (rw [e]; exact hPt); exact hAA.2.2.1 j p (by omega)
        have cut51 : ∀ (ls : Array Slot) (H : Heap) (locs : List Loc), (i + 1 = n ∨ (pg lv lw) (i + 1) = false) → lv_has ls 5 [(0, .ref (sA 0)), (1, .int (iv n)), (2, .int (iv lv)), (3, .int (iv st)), (4, .int (iv i))] → va_P (dC, dI) vwCl (wS cI cZ cG cR sA kd lw o) H → va_D A0 (wS cI cZ cG cR sA kd lw o) → va_S A0 s0.heap H locs → W p0 l e0 R0 s0 m0 a0 b0 t0 c0 H locs 0 0 Q0 (F0 m0 51 ls []) := by
          intro  ls H locs h51 hl hP hD hS
          refine lv_aload_n (pc := 51) gX gB dS_turnRows_51 rfl (lv_at hl 0 rfl) ?_
          refine lv_iload_n (pc := 52) gX gB dS_turnRows_52 rfl (lv_at hl 3 rfl) ?_
          refine lv_iload (pc := 53) gX gB dS_turnRows_53 (lv_at hl 4 rfl) ?_
          refine jv_rv (pc := 55) (wr := []) (wn := fun u : (Int → Int) => (wS cI cZ cG cR sA kd lw u)) (va_runV (rest := []) ⟨gX, gB, hml, hown, hw0⟩ (c_S_turnRound l dC dI cI cZ cG cR sA kd lw o _ st i (by omega)) (jcV hw0 kS_turnRound q597 rfl rfl ⟨Nat.le_trans (Nat.le_of_ble_eq_true rfl) hRf, Nat.le_trans (Nat.le_of_ble_eq_true rfl) hRl⟩) (jv_preV (ci := 4) (q0 := 0) hK hP hD [0, 1, 2, 3] rfl (by decide) rfl rfl) rfl rfl hl.1 rfl (lv_room (Nat.le_of_ble_eq_true rfl)) dS_turnRows_55 ⟨Nat.zero_le _, Nat.zero_le _⟩) hP hD hS hA [0, 1, 2, 3] [] [0, 1, 2, 3] rfl rfl (by decide) (by decide) (by decide) (fun _ => rfl) (fun u H locs hw55 hP hD hS => ?_)
          obtain ⟨od_55, hu⟩ : ∃ z, z = u := ⟨_, rfl⟩; subst hu
          exact cut58 st od_55 _ _ _ (by omega) (by exact Or.inr ⟨rvs_run hAA.1 (by omega) (hAA.2.2.2.elim Or.inl (fun z => Or.inr (Or.inl z))) h51 (by omega) hrun (by omega) hw55, h51, by omega⟩) hl hP hD hS
        refine lv_iload (pc := 30) gX gB dS_turnRows_30 (lv_at hl 4 rfl) ?_
        refine lv_iconst (pc := 32) (v := iv 1) gX gB dS_turnRows_32 rfl ?_
        refine jv_iadd (pc := 33) (x := i) (y := 1) gX gB dS_turnRows_33 ?_
        refine lv_iload_n (pc := 34) gX gB dS_turnRows_34 rfl (lv_at hl 1 rfl) ?_
        refine jv_icmp_eq (pc := 35) (tgt := 51) gX gB dS_turnRows_35 (by decide) (by omega) (by omega) (fun h3 => ?_) (fun h3 => ?_)
        · skip
          exact cut51  _ _ _ (by exact Or.inl (by assumption)) hl hP hD hS
        have hli2 := hlw (i + 1) (by omega) (by omega)
        refine lv_aload_n (pc := 38) gX gB dS_turnRows_38 rfl (lv_at hl 0 rfl) ?_
        refine va_get (pc := 39) (D := (dC, dI)) (ci := 4) (v := .ref (sA 2)) (C := RS) (T := TS) (N := 3) gX gB hw0 inS hown hK hP 0 rfl rfl 1 (by decide) (hw0 _ q119) (fun _ h9 => h9) rfl dS_turnRows_39 ?_
        refine lv_iload (pc := 42) gX gB dS_turnRows_42 (lv_at hl 4 rfl) ?_
        refine lv_iconst (pc := 44) (v := iv 1) gX gB dS_turnRows_44 rfl ?_
        refine jv_iadd (pc := 45) (x := i) (y := 1) gX gB dS_turnRows_45 ?_
        refine jv_iald (pc := 46) gX gB hK hP 2 0 rfl rfl (by decide) (by omega) dS_turnRows_46 ?_
        refine lv_iload_n (pc := 47) gX gB dS_turnRows_47 rfl (lv_at hl 2 rfl) ?_
        refine jv_icmp_ge (pc := 48) (tgt := 58) gX gB dS_turnRows_48 (by decide) (by omega) (by omega) (fun h4 => ?_) (fun h4 => ?_)
        · skip
          exact cut58 st o _ _ _ (by omega) (by exact Or.inl ⟨hAA.1, by omega, hrun, hAA.2.2.2, fun _ => ⟨by omega, decide_eq_true (by omega)⟩⟩) hl hP hD hS
        exact cut51  _ _ _ (by exact Or.inr (decide_eq_false (by omega))) hl hP hD hS
      have hPf : (pg lv lw) i = false := decide_eq_false (by omega)
      have hR1 : RVS (pg lv lw) n od i o := by rcases hI with ⟨z1, z2, z3, z4, z5⟩ | z; (rcases (show st = i ∨ st < i by omega) with y | y; (rw [← y]; exact z1); (have q := (z5 y).2; rw [hPf] at q; cases q)); exact z.1
      refine lv_iload (pc := 22) gX gB dS_turnRows_22 (lv_at hl 4 rfl) ?_
      refine lv_iconst (pc := 24) (v := iv 1) gX gB dS_turnRows_24 rfl ?_
      refine jv_iadd (pc := 25) (x := i) (y := 1) gX gB dS_turnRows_25 ?_
      refine lv_istore_n (pc := 26) (lv' := [(3, .int (iv (i + 1))), (0, .ref (sA 0)), (1, .int (iv n)), (2, .int (iv lv)), (4, .int (iv i))]) gX gB dS_turnRows_26 rfl hl (by decide) rfl (fun ls hl => ?_)
      refine lv_goto (pc := 27) (tgt := 58) gX gB dS_turnRows_27 (by decide) ?_
      exact cut58 (i + 1) o _ _ _ (by omega) (by exact Or.inl ⟨rvs_one hR1 (by omega) (by omega) hPf, by omega, fun j a b => by omega, Or.inr (by rw [show i + 1 - 1 = i by omega]; exact hPf), fun z => by omega⟩) (lv_sub hl [1, 2, 3, 0, 4] rfl) hP hD hS
  exact cut5 (((n - 0 : Int).toNat) + 1) 0 0 od _ _ _ (by omega) (by exact Or.inl ⟨⟨fun j a b => by omega, fun j a b => rfl⟩, by omega, fun j a b => by omega, Or.inl rfl, fun z => by omega⟩) (Nat.lt_succ_self _) (lv_sub hl [2, 3, 4, 1, 0] rfl) hP hD hS
set_option maxRecDepth 100000 in
set_option maxHeartbeats 1000000 in
theorem c_S_findOrder (l : Launch) (dC : Nat → ClassId) (dI : Nat → Nat → Nat) (cI : ClassId) (cZ : ClassId) (cG : ClassId) (cR : ClassId) (sA : Nat → Nat) (kd : Int → Int) (lw : Int → Int) (od : Int → Int) (sz : Nat) (n : Int) (hn9 : 0 ≤ n ∧ n ≤ 40) (hlw : ∀ j, 0 ≤ j → j < n → 0 ≤ lw j ∧ lw j ≤ 2) : Met l yS_findOrder wsS_findOrder ({ frames := 2, cells := 0, slots := 0, locals := 49 }) (va_Pc [.ref (sA 0), .int (iv n)] (jPre (dC, dI) (jT cI cZ cG cR) (wS cI cZ cG cR sA kd lw od) sz)) (va_Qv (fun u : (Int → Int) => ∀ j, 0 ≤ j → j < n → u j = odm lw n 0 j) (fun u => jEnd (dC, dI) (jT cI cZ cG cR) (va_A (wS cI cZ cG cR sA kd lw od) sz) (wS cI cZ cG cR sA kd lw u)) (va_A (wS cI cZ cG cR sA kd lw od) sz)) 0 0 (va_A (wS cI cZ cG cR sA kd lw od) sz) := by
  refine jv_mv (cc := cS_findOrder) (maxL := 3) (by decide) rfl (Nat.le_of_ble_eq_true rfl) ?_
  intro p0 e0 s0 m0 a0 b0 t0 c0 R0 Q0 A0 ls gX gB hts hown hml hRf hRl hA hK hret hl hP hD hS
  have hown : s0.vm.findClass "TextPipeline$Sides" = some m0.cls := hown
  have hw0 : ∀ w ∈ WS0, w.before a0 s0 = true := fun w h => hts w (List.mem_cons_of_mem _ h)
  have hl : lv_has ls 3 [(0, .ref (sA 0)), (1, .int (iv n))] := hl
  have hRf : 2 ≤ R0.frames := hRf
  have hRl : 49 ≤ R0.locals := hRl
  refine lv_iconst (pc := 0) (v := iv 0) gX gB dS_findOrder_0 rfl ?_
  refine lv_istore_n (pc := 1) (lv' := [(2, .int (iv 0)), (0, .ref (sA 0)), (1, .int (iv n))]) gX gB dS_findOrder_1 rfl hl (by decide) rfl (fun ls hl => ?_)
  have cut2 : ∀ (n0 : Nat) (k : Int) (o1 : Int → Int) (ls : Array Slot) (H : Heap) (locs : List Loc), (0 ≤ k ∧ k ≤ n) → (∀ j, 0 ≤ j → j < k → o1 j = j) → ((n - k : Int).toNat < n0) → lv_has ls 3 [(0, .ref (sA 0)), (1, .int (iv n)), (2, .int (iv k))] → va_P (dC, dI) vwCl (wS cI cZ cG cR sA kd lw o1) H → va_D A0 (wS cI cZ cG cR sA kd lw o1) → va_S A0 s0.heap H locs → W p0 l e0 R0 s0 m0 a0 b0 t0 c0 H locs 0 0 Q0 (F0 m0 2 ls []) := by
    intro n0
    induction n0 with
    | zero => intro k o1 ls H locs hk ho1 hm hl hP hD hS; exact absurd hm (Nat.not_lt_zero _)
    | succ n0 ih2 =>
      intro k o1 ls H locs hk ho1 hm2 hl hP hD hS
      refine lv_iload_n (pc := 2) gX gB dS_findOrder_2 rfl (lv_at hl 2 rfl) ?_
      refine lv_iload_n (pc := 3) gX gB dS_findOrder_3 rfl (lv_at hl 1 rfl) ?_
      refine jv_icmp_ge (pc := 4) (tgt := 20) gX gB dS_findOrder_4 (by decide) (by omega) (by omega) (fun h1 => ?_) (fun h1 => ?_)
      · skip
        refine lv_iconst (pc := 20) (v := iv 2) gX gB dS_findOrder_20 rfl ?_
        refine lv_istore_n (pc := 21) (lv' := [(2, .int (iv 2)), (0, .ref (sA 0)), (1, .int (iv n))]) gX gB dS_findOrder_21 rfl hl (by decide) rfl (fun ls hl => ?_)
        have cut22 : ∀ (n0 : Nat) (m : Int) (o2 : Int → Int) (ls : Array Slot) (H : Heap) (locs : List Loc), (0 ≤ m ∧ m ≤ 2) → (∀ j, 0 ≤ j → j < n → o2 j = odm lw n m j) → ((m : Int).toNat < n0) → lv_has ls 3 [(0, .ref (sA 0)), (1, .int (iv n)), (2, .int (iv m))] → va_P (dC, dI) vwCl (wS cI cZ cG cR sA kd lw o2) H → va_D A0 (wS cI cZ cG cR sA kd lw o2) → va_S A0 s0.heap H locs → W p0 l e0 R0 s0 m0 a0 b0 t0 c0 H locs 0 0 Q0 (F0 m0 22 ls []) := by
          intro n0
          induction n0 with
          | zero => intro m o2 ls H locs hm ho2 hm hl hP hD hS; exact absurd hm (Nat.not_lt_zero _)
          | succ n0 ih22 =>
            intro m o2 ls H locs hm ho2 hm22 hl hP hD hS
            refine lv_iload_n (pc := 22) gX gB dS_findOrder_22 rfl (lv_at hl 2 rfl) ?_
            refine lv_iconst (pc := 23) (v := iv 1) gX gB dS_findOrder_23 rfl ?_
            refine jv_icmp_lt (pc := 24) (tgt := 39) gX gB dS_findOrder_24 (by decide) (by omega) (by decide) (fun h2 => ?_) (fun h2 => ?_)
            · skip
              exact hret (o2) dS_findOrder_39 (by intro j a b; rw [ho2 j a b, show m = 0 by omega]) hP hD hS
            refine lv_aload_n (pc := 27) gX gB dS_findOrder_27 rfl (lv_at hl 0 rfl) ?_
            refine lv_iload_n (pc := 28) gX gB dS_findOrder_28 rfl (lv_at hl 1 rfl) ?_
            refine lv_iload_n (pc := 29) gX gB dS_findOrder_29 rfl (lv_at hl 2 rfl) ?_
            refine jv_rv (pc := 30) (wr := []) (wn := fun u : (Int → Int) => (wS cI cZ cG cR sA kd lw u)) (va_runV (rest := []) ⟨gX, gB, hml, hown, hw0⟩ (c_S_turnRows l dC dI cI cZ cG cR sA kd lw o2 _ n m (by omega) (by omega) (by exact hlw)) (jcV hw0 kS_turnRows q593 rfl rfl ⟨Nat.le_trans (Nat.le_of_ble_eq_true rfl) hRf, Nat.le_trans (Nat.le_of_ble_eq_true rfl) hRl⟩) (jv_preV (ci := 4) (q0 := 0) hK hP hD [0, 1, 2, 3] rfl (by decide) rfl rfl) rfl rfl hl.1 rfl (lv_room (Nat.le_of_ble_eq_true rfl)) dS_findOrder_30 ⟨Nat.zero_le _, Nat.zero_le _⟩) hP hD hS hA [0, 1, 2, 3] [] [0, 1, 2, 3] rfl rfl (by decide) (by decide) (by decide) (fun _ => rfl) (fun u H locs hw30 hP hD hS => ?_)
            obtain ⟨od_30, hu⟩ : ∃ z, z = u := ⟨_, rfl⟩; subst hu
            refine jv_idec (pc := 33) (k := 2) (x := m) (n := (-1)) (d := 1) (lv' := [(2, .int (iv (m - 1))), (0, .ref (sA 0)), (1, .int (iv n))]) gX gB dS_findOrder_33 (by decide) hl rfl (by decide) rfl (fun ls hl => ?_)
            refine lv_goto (pc := 36) (tgt := 22) gX gB dS_findOrder_36 (by decide) ?_
            exact ih22 (m - 1) od_30 _ _ _ (by omega) (by intro j a b; rw [hw30 j a b, rv_congr (Q := pg m lw) (U := odm lw n m) (fun j a b => rfl) ho2 a b]; rcases (show m = 1 ∨ m = 2 by omega) with rfl | rfl <;> rfl) (by omega) (lv_sub hl [1, 2, 0] rfl) hP hD hS
        exact cut22 (((2 : Int).toNat) + 1) 2 o1 _ _ _ (by omega) (by intro j a b; rw [ho1 j a (by omega)]; rfl) (Nat.lt_succ_self _) (lv_sub hl [1, 2, 0] rfl) hP hD hS
      refine lv_aload_n (pc := 7) gX gB dS_findOrder_7 rfl (lv_at hl 0 rfl) ?_
      refine va_get (pc := 8) (D := (dC, dI)) (ci := 4) (v := .ref (sA 3)) (C := RS) (T := TS) (N := 3) gX gB hw0 inS hown hK hP 0 rfl rfl 2 (by decide) (hw0 _ q120) (fun _ h9 => h9) rfl dS_findOrder_8 ?_
      refine lv_iload_n (pc := 11) gX gB dS_findOrder_11 rfl (lv_at hl 2 rfl) ?_
      refine lv_iload_n (pc := 12) gX gB dS_findOrder_12 rfl (lv_at hl 2 rfl) ?_
      refine jv_iast (pc := 13) (ws' := (wS cI cZ cG cR sA kd lw (uI o1 k k))) gX gB hK hP hD hS 3 0 rfl rfl (by decide) (by omega) dS_findOrder_13 rfl (fun H locs hP hD hS => ?_)
      refine jv_iinc (pc := 14) (k := 2) (x := k) (n := 1) (lv' := [(2, .int (iv (k + 1))), (0, .ref (sA 0)), (1, .int (iv n))]) gX gB dS_findOrder_14 hl rfl (by decide) rfl (fun ls hl => ?_)
      refine lv_goto (pc := 17) (tgt := 2) gX gB dS_findOrder_17 (by decide) ?_
      exact ih2 (k + 1) (uI o1 k k) _ _ _ (by omega) (by intro j a b; by_cases e : j = k; (rw [uI_e e, e]); (rw [uI_n e]; exact ho1 j a (by omega))) (by omega) (lv_sub hl [1, 2, 0] rfl) hP hD hS
  exact cut2 (((n - 0 : Int).toNat) + 1) 0 od _ _ _ (by omega) (by intro j a b; omega) (Nat.lt_succ_self _) (lv_sub hl [1, 2, 0] rfl) hP hD hS
