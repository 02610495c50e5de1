theorem may_hsb : ∀ x y : Fin 13, (mayv ((x.val : Nat) : Int) ((y.val : Nat) : Int) = 1 ↔ (((x.val : Nat) : Int) = 2 ∨ hsbv ((x.val : Nat) : Int) ((y.val : Nat) : Int) = 0)) := by decide +kernel
theorem may_h {x y : Int} (hx : 0 ≤ x ∧ x ≤ 12) (hy : 0 ≤ y ∧ y ≤ 12) : mayv x y = 1 ↔ (x = 2 ∨ hsbv x y = 0) := by
  have h := may_hsb ⟨x.toNat, by omega⟩ ⟨y.toNat, by omega⟩
  rw [show ((x.toNat : Nat) : Int) = x by omega, show ((y.toNat : Nat) : Int) = y by omega] at h
  exact h
theorem fl_m {lz tx : Int → Int} {i : Int} (hi : 1 ≤ i) (h0 : 0 ≤ lkf lz tx (i - 1).toNat) : flf lz tx i = 1 ↔ (lz (tx i) = 11 ∧ lkf lz tx (i - 1).toNat = lkf lz tx i.toNat) := by
  have e := lkf_s (lz := lz) (tx := tx) hi
  unfold flf
  by_cases c : lz (tx i) = 11 ∧ 0 < i ∧ (lkf lz tx (i - 1).toNat = 0 ∨ 3 < lkf lz tx (i - 1).toNat)
  · rw [if_pos c]
    refine ⟨fun _ => ⟨c.1, ?_⟩, fun _ => rfl⟩
    rw [e, if_neg (fun q => q c.1), if_pos c.2.2]
  · rw [if_neg c]
    refine ⟨fun q => absurd q (by decide), fun q => ?_⟩
    exfalso
    have z : ¬ (lkf lz tx (i - 1).toNat = 0 ∨ 3 < lkf lz tx (i - 1).toNat) := fun w => c ⟨q.1, by omega, w⟩
    rw [if_neg (fun w => w q.1), if_neg z] at e
    have := q.2
    omega
theorem eb_lb {x y z f m : Int} (hx : 0 ≤ x ∧ x ≤ 12) (hy : 0 ≤ y ∧ y ≤ 12) (hf : f = 1 ↔ (m = 1 ∧ x = y)) : ebf x y z m = lbf x y z f := by
  unfold ebf lbf
  by_cases a : x = 1
  · rw [if_pos a, if_pos a]
  · rw [if_neg a, if_neg a]
    by_cases b : 0 < y ∧ y < 4
    · rw [if_pos b, if_pos b]
    · rw [if_neg b, if_neg b]
      by_cases c : z = 3
      · rw [if_pos c, if_pos c]
      · rw [if_neg c, if_neg c]
        have hh : hovv x y z = 1 ↔ (x = 4 ∨ y = 4 ∨ y = 6 ∨ y = 12 ∨ (z = 5 ∨ (z = 7 ∧ y = 5))) := by
          unfold hovv
          by_cases d : x = 4 ∨ y = 4 ∨ y = 6 ∨ y = 12 ∨ (z = 5 ∨ (z = 7 ∧ y = 5))
          · rw [if_pos d]; exact ⟨fun _ => d, fun _ => rfl⟩
          · rw [if_neg d]; exact ⟨fun q => absurd q (by decide), fun q => absurd q d⟩
        by_cases d : (m = 1 ∧ x = y) ∨ hovv x y z = 1
        · have dd : f = 1 ∨ x = 4 ∨ y = 4 ∨ y = 6 ∨ y = 12 ∨ z = 5 ∨ (z = 7 ∧ y = 5) := by
            rcases d with d | d
            · exact Or.inl (hf.mpr d)
            · exact Or.inr (hh.mp d)
          rw [if_pos d, if_pos dd]
        · have dd : ¬ (f = 1 ∨ x = 4 ∨ y = 4 ∨ y = 6 ∨ y = 12 ∨ z = 5 ∨ (z = 7 ∧ y = 5)) := by
            intro q
            rcases q with q | q
            · exact d (Or.inl (hf.mp q))
            · exact d (Or.inr (hh.mpr q))
          rw [if_neg d, if_neg dd]
          by_cases g : x = 2 ∨ hsbv x y = 0
          · rw [if_pos g, if_pos ((may_h hx hy).mpr g)]
          · rw [if_neg g, if_neg (fun q => g ((may_h hx hy).mp q))]
theorem lk_rng {lz tx : Int → Int} {n : Int} (hz : ∀ c, 0 ≤ c → c < 75 → 0 ≤ lz c ∧ lz c ≤ 12) (ht : ∀ j, 0 ≤ j → j < n → 0 ≤ tx j ∧ tx j < 75) {i : Int} (h0 : 0 ≤ i) (h1 : i < n) : 0 ≤ lkf lz tx i.toNat ∧ lkf lz tx i.toNat ≤ 12 := by
  have q := lkf_rng (lz := fun c => if 0 ≤ c ∧ c < 75 then lz c else 0) (tx := tx) (fun c h => by
    show 0 ≤ (if 0 ≤ c ∧ c < 75 then lz c else 0) ∧ (if 0 ≤ c ∧ c < 75 then lz c else 0) ≤ 12
    split
    · exact hz c (by omega) (by omega)
    · omega) i.toNat (fun j a b => (ht j a (by omega)).1)
  rw [lkf_congr (lz2 := lz) i.toNat (fun j a b => by have := ht j a (by omega); exact if_pos this)] at q
  exact q
set_option maxRecDepth 100000 in
set_option maxHeartbeats 4000000 in
theorem c_L_endBefore (l : Launch) (dC : Nat → ClassId) (dI : Nat → Nat → Nat) (cI : ClassId) (cZ : ClassId) (cG : ClassId) (cR : ClassId) (lA : Nat → Nat) (lk : Int → Int) (tA : Nat → Nat) (pr0 : Int → Int) (pr1 : Int → Int) (pr2 : Int → Int) (pr3 : Int → Int) (pr4 : Int → Int) (pr5 : Int → Int) (pr6 : Int → Int) (t1 : Int → Int) (t2 : Int → Int) (ex : Int → Int) (pt : Int → Int) (pn : Int → Int) (tc : Int → Int) (xa : Nat) (xi : Nat) (xn : Nat) (xs : Int) (xf : Int → Int) (sz : Nat) (i : Int) (hcap : xn < 1000) (hsx : 0 ≤ xs ∧ xs ≤ (xn : Int) ∧ xs ≤ 40) (hxf : ∀ j, 0 ≤ j → j < xs → 0 ≤ xf j ∧ xf j < 75) (hp2 : ∀ c, 0 ≤ c → c < 75 → 0 ≤ pr2 c ∧ pr2 c ≤ 12) (hi : 0 ≤ i ∧ i ≤ xs) : Met l yL_endBefore wsL_endBefore ({ frames := 3, cells := 0, slots := 0, locals := 64 }) (va_Pc [.ref (lA 0), .ref (tA 0), .ref xa, .int (iv i)] (jPre (dC, dI) (jT cI cZ cG cR) (wLTR cI cZ cG cR lA lk tA pr0 pr1 pr2 pr3 pr4 pr5 pr6 t1 t2 ex pt pn tc xa xi xn xs xf) sz)) (va_Qi (fun (r0 : Int32) (u : Int × (Int → Int)) => r0 = iv u.1 ∧ (u.1 = lnf pr2 xf xs i)) (fun u => jEnd (dC, dI) (jT cI cZ cG cR) (va_A (wLTR cI cZ cG cR lA lk tA pr0 pr1 pr2 pr3 pr4 pr5 pr6 t1 t2 ex pt pn tc xa xi xn xs xf) sz) (wLTR cI cZ cG cR lA u.2 tA pr0 pr1 pr2 pr3 pr4 pr5 pr6 t1 t2 ex pt pn tc xa xi xn xs xf)) (va_A (wLTR cI cZ cG cR lA lk tA pr0 pr1 pr2 pr3 pr4 pr5 pr6 t1 t2 ex pt pn tc xa xi xn xs xf) sz)) 0 0 (va_A (wLTR cI cZ cG cR lA lk tA pr0 pr1 pr2 pr3 pr4 pr5 pr6 t1 t2 ex pt pn tc xa xi xn xs xf) sz) := by
  refine jv_mi (cc := cL_endBefore) (maxL := 5) (by decide) rfl (Nat.le_of_ble_eq_true rfl) ?_
  intro p0 e0 s0 m0 a0 b0 t0 c0 R0 Q0 A0 ls gX gB hts hown hml hRf hRl hA hK hret hl hP hD hS
  have hown : s0.vm.findClass "TextPipeline$Lines" = some m0.cls := hown
  have hw0 : ∀ w ∈ WS0, w.before a0 s0 = true := fun w h => hts w (List.mem_cons_of_mem _ h)
  have hl : lv_has ls 5 [(0, .ref (lA 0)), (1, .ref (tA 0)), (2, .ref xa), (3, .int (iv i))] := hl
  have hRf : 3 ≤ R0.frames := hRf
  have hRl : 64 ≤ R0.locals := hRl
  refine lv_iload_n (pc := 0) gX gB dL_endBefore_0 rfl (lv_at hl 3 rfl) ?_
  refine jv_if_gt (pc := 1) (tgt := 6) gX gB dL_endBefore_1 (by decide) (by omega) (fun h1 => ?_) (fun h1 => ?_)
  · skip
    refine lv_iload_n (pc := 6) gX gB dL_endBefore_6 rfl (lv_at hl 3 rfl) ?_
    refine lv_aload_n (pc := 7) gX gB dL_endBefore_7 rfl (lv_at hl 2 rfl) ?_
    refine jv_ri (pc := 8) (wr := [(lA 0, .inr (3, [.ref (lA 1)])), (lA 1, .inl (cI, 40, .inl (av lk))), (tA 0, .inr (1, [.ref (tA 1), .ref (tA 9), .ref (tA 10), .ref (tA 11), .ref (tA 12), .ref (tA 13), .ref (tA 14)])), (tA 1, .inl (cG, 7, .inr (.inr (.inr (.inr (rfs [tA 2, tA 3, tA 4, tA 5, tA 6, tA 7, tA 8])))))), (tA 2, .inl (cI, 75, .inl (av pr0))), (tA 3, .inl (cI, 75, .inl (av pr1))), (tA 4, .inl (cI, 75, .inl (av pr2))), (tA 5, .inl (cI, 75, .inl (av pr3))), (tA 6, .inl (cI, 75, .inl (av pr4))), (tA 7, .inl (cI, 75, .inl (av pr5))), (tA 8, .inl (cI, 75, .inl (av pr6))), (tA 9, .inl (cI, 75, .inl (av t1))), (tA 10, .inl (cI, 75, .inl (av t2))), (tA 11, .inl (cZ, 75, .inl (av ex))), (tA 12, .inl (cI, 300, .inl (av pt))), (tA 13, .inl (cI, 75, .inl (av pn))), (tA 14, .inl (cI, 75, .inl (av tc)))]) (wn := fun u : Int => (wLTR cI cZ cG cR lA lk tA pr0 pr1 pr2 pr3 pr4 pr5 pr6 t1 t2 ex pt pn tc xa xi xn xs xf)) (va_runV (rest := [.int (iv i)]) ⟨gX, gB, hml, hown, hw0⟩ (c_R_size l dC dI cI cZ cG cR xa xi xn xs xf _  ) (jcV hw0 kR_size q477 rfl rfl ⟨Nat.le_trans (Nat.le_of_ble_eq_true rfl) hRf, Nat.le_trans (Nat.le_of_ble_eq_true rfl) hRl⟩) (jv_preV (ci := 2) (q0 := 17) hK hP hD [17, 18] rfl (by decide) rfl rfl) rfl rfl hl.1 rfl (lv_room (Nat.le_of_ble_eq_true rfl)) dL_endBefore_8 ⟨Nat.zero_le _, Nat.zero_le _⟩) hP hD hS hA [17, 18] [0, 1, 2, 3, 4, 5, 6, 7, 8, 9, 10, 11, 12, 13, 14, 15, 16] [0, 1, 2, 3, 4, 5, 6, 7, 8, 9, 10, 11, 12, 13, 14, 15, 16, 17, 18] rfl rfl (by decide) (by decide) (by decide) (fun _ => rfl) (fun r0 u H locs hw8 hP hD hS => ?_)
    obtain ⟨r_8, hu⟩ : ∃ z, z = u := ⟨_, rfl⟩; subst hu
    obtain ⟨rfl, hw8⟩ := hw8
    refine jv_icmp_lt (pc := 11) (tgt := 16) gX gB dL_endBefore_11 (by decide) (by omega) (by omega) (fun h2 => ?_) (fun h2 => ?_)
    · skip
      refine lv_aload_n (pc := 16) gX gB dL_endBefore_16 rfl (lv_at hl 0 rfl) ?_
      refine lv_aload_n (pc := 17) gX gB dL_endBefore_17 rfl (lv_at hl 1 rfl) ?_
      refine lv_aload_n (pc := 18) gX gB dL_endBefore_18 rfl (lv_at hl 2 rfl) ?_
      refine jv_rv (pc := 19) (wr := []) (wn := fun u : (Int → Int) => (wLTR cI cZ cG cR lA u tA pr0 pr1 pr2 pr3 pr4 pr5 pr6 t1 t2 ex pt pn tc xa xi xn xs xf)) (va_runV (rest := []) ⟨gX, gB, hml, hown, hw0⟩ (c_L_findKinds l dC dI cI cZ cG cR lA lk tA pr0 pr1 pr2 pr3 pr4 pr5 pr6 t1 t2 ex pt pn tc xa xi xn xs xf _  (by omega) (by exact hsx) (by omega) (by omega)) (jcV hw0 kL_findKinds q478 rfl rfl ⟨Nat.le_trans (Nat.le_of_ble_eq_true rfl) hRf, Nat.le_trans (Nat.le_of_ble_eq_true rfl) hRl⟩) (jv_preV (ci := 3) (q0 := 0) hK hP hD [0, 1, 2, 3, 4, 5, 6, 7, 8, 9, 10, 11, 12, 13, 14, 15, 16, 17, 18] rfl (by decide) rfl rfl) rfl rfl hl.1 rfl (lv_room (Nat.le_of_ble_eq_true rfl)) dL_endBefore_19 ⟨Nat.zero_le _, Nat.zero_le _⟩) hP hD hS hA [0, 1, 2, 3, 4, 5, 6, 7, 8, 9, 10, 11, 12, 13, 14, 15, 16, 17, 18] [] [0, 1, 2, 3, 4, 5, 6, 7, 8, 9, 10, 11, 12, 13, 14, 15, 16, 17, 18] rfl rfl (by decide) (by decide) (by decide) (fun _ => rfl) (fun u H locs hw19 hP hD hS => ?_)
      obtain ⟨lk_19, hu⟩ : ∃ z, z = u := ⟨_, rfl⟩; subst hu
      have hxi := hxf i (by omega) (by omega)
      have hci := hp2 _ hxi.1 hxi.2
      have hx9 := lk_rng hp2 hxf (i := i - 1) (by omega) (by omega)
      have hy9 := lk_rng hp2 hxf (i := i) (by omega) (by omega)
      have hxe := hw19 (i - 1) (by omega) (by omega)
      have hye := hw19 i (by omega) (by omega)
      have cut41 : ∀ (mk : Int) (ls : Array Slot) (H : Heap) (locs : List Loc), (mk = 1 ↔ pr2 (xf i) = 11) → (mk = 0 ∨ mk = 1) → lv_has ls 5 [(0, .ref (lA 0)), (3, .int (iv i))] → va_P (dC, dI) vwCl (wLTR cI cZ cG cR lA lk_19 tA pr0 pr1 pr2 pr3 pr4 pr5 pr6 t1 t2 ex pt pn tc xa xi xn xs xf) H → va_D A0 (wLTR cI cZ cG cR lA lk_19 tA pr0 pr1 pr2 pr3 pr4 pr5 pr6 t1 t2 ex pt pn tc xa xi xn xs xf) → va_S A0 s0.heap H locs → W p0 l e0 R0 s0 m0 a0 b0 t0 c0 H locs 0 0 Q0 (F0 m0 41 ls [.int (iv mk)]) := by
        intro mk ls H locs hmk hm0 hl hP hD hS
        refine lv_istore (pc := 41) (lv' := [(4, .int (iv mk)), (0, .ref (lA 0)), (3, .int (iv i))]) gX gB dL_endBefore_41 hl (by decide) rfl (fun ls hl => ?_)
        refine lv_aload_n (pc := 43) gX gB dL_endBefore_43 rfl (lv_at hl 1 rfl) ?_
        refine va_get (pc := 44) (D := (dC, dI)) (ci := 3) (v := .ref (lA 1)) (C := RL) (T := TL) (N := 1) gX gB hw0 inL hown hK hP 0 rfl rfl 0 (by decide) (hw0 _ q108) (fun _ h9 => h9) rfl dL_endBefore_44 ?_
        refine lv_iload_n (pc := 47) gX gB dL_endBefore_47 rfl (lv_at hl 2 rfl) ?_
        refine lv_iconst (pc := 48) (v := iv 1) gX gB dL_endBefore_48 rfl ?_
        refine jv_isub (pc := 49) (x := i) (y := 1) gX gB dL_endBefore_49 ?_
        refine jv_iald (pc := 50) gX gB hK hP 1 0 rfl rfl (by decide) (by omega) dL_endBefore_50 ?_
        refine lv_aload_n (pc := 51) gX gB dL_endBefore_51 rfl (lv_at hl 1 rfl) ?_
        refine va_get (pc := 52) (D := (dC, dI)) (ci := 3) (v := .ref (lA 1)) (C := RL) (T := TL) (N := 1) gX gB hw0 inL hown hK hP 0 rfl rfl 0 (by decide) (hw0 _ q108) (fun _ h9 => h9) rfl dL_endBefore_52 ?_
        refine lv_iload_n (pc := 55) gX gB dL_endBefore_55 rfl (lv_at hl 2 rfl) ?_
        refine jv_iald (pc := 56) gX gB hK hP 1 0 rfl rfl (by decide) (by omega) dL_endBefore_56 ?_
        refine lv_aload_n (pc := 57) gX gB dL_endBefore_57 rfl (lv_at hl 1 rfl) ?_
        refine lv_iload_n (pc := 58) gX gB dL_endBefore_58 rfl (lv_at hl 2 rfl) ?_
        refine lv_iconst (pc := 59) (v := iv 1) gX gB dL_endBefore_59 rfl ?_
        refine jv_isub (pc := 60) (x := i) (y := 1) gX gB dL_endBefore_60 ?_
        refine jv_ri (pc := 61) (wr := [(tA 0, .inr (1, [.ref (tA 1), .ref (tA 9), .ref (tA 10), .ref (tA 11), .ref (tA 12), .ref (tA 13), .ref (tA 14)])), (tA 1, .inl (cG, 7, .inr (.inr (.inr (.inr (rfs [tA 2, tA 3, tA 4, tA 5, tA 6, tA 7, tA 8])))))), (tA 2, .inl (cI, 75, .inl (av pr0))), (tA 3, .inl (cI, 75, .inl (av pr1))), (tA 4, .inl (cI, 75, .inl (av pr2))), (tA 5, .inl (cI, 75, .inl (av pr3))), (tA 6, .inl (cI, 75, .inl (av pr4))), (tA 7, .inl (cI, 75, .inl (av pr5))), (tA 8, .inl (cI, 75, .inl (av pr6))), (tA 9, .inl (cI, 75, .inl (av t1))), (tA 10, .inl (cI, 75, .inl (av t2))), (tA 11, .inl (cZ, 75, .inl (av ex))), (tA 12, .inl (cI, 300, .inl (av pt))), (tA 13, .inl (cI, 75, .inl (av pn))), (tA 14, .inl (cI, 75, .inl (av tc))), (xa, .inr (2, [.ref xi, .int (iv xs)])), (xi, .inl (cI, xn, .inl (av xf)))]) (wn := fun u : Int => (wLTR cI cZ cG cR lA lk_19 tA pr0 pr1 pr2 pr3 pr4 pr5 pr6 t1 t2 ex pt pn tc xa xi xn xs xf)) (va_runV (rest := [.int (iv (lk_19 i)), .int (iv (lk_19 (i - 1)))]) ⟨gX, gB, hml, hown, hw0⟩ (c_L_kindOverSpaces l dC dI cI cZ cG cR lA lk_19 _ (i - 1) (by omega) (by exact fun j a b => by rw [hw19 j a (by omega)]; exact lk_rng hp2 hxf a (by omega))) (jcV hw0 kL_kindOverSpaces q490 rfl rfl ⟨Nat.le_trans (Nat.le_of_ble_eq_true rfl) hRf, Nat.le_trans (Nat.le_of_ble_eq_true rfl) hRl⟩) (jv_preV (ci := 3) (q0 := 0) hK hP hD [0, 1] rfl (by decide) rfl rfl) rfl rfl hl.1 rfl (lv_room (Nat.le_of_ble_eq_true rfl)) dL_endBefore_61 ⟨Nat.zero_le _, Nat.zero_le _⟩) hP hD hS hA [0, 1] [2, 3, 4, 5, 6, 7, 8, 9, 10, 11, 12, 13, 14, 15, 16, 17, 18] [17, 18, 0, 1, 2, 3, 4, 5, 6, 7, 8, 9, 10, 11, 12, 13, 14, 15, 16] rfl rfl (by decide) (by decide) (by decide) (fun _ => rfl) (fun r0 u H locs hw61 hP hD hS => ?_)
        obtain ⟨r_61, hu⟩ : ∃ z, z = u := ⟨_, rfl⟩; subst hu
        obtain ⟨rfl, hw61⟩ := hw61
        have hz9 : -1 ≤ r_61 ∧ r_61 ≤ 12 := by rw [hw61]; exact osf_rng _ (fun j a b => by rw [hw19 j a (by omega)]; exact lk_rng hp2 hxf a (by omega))
        refine lv_iload (pc := 64) gX gB dL_endBefore_64 (lv_at hl 0 rfl) ?_
        refine jv_ri (pc := 66) (wr := [(lA 0, .inr (3, [.ref (lA 1)])), (lA 1, .inl (cI, 40, .inl (av lk_19))), (tA 0, .inr (1, [.ref (tA 1), .ref (tA 9), .ref (tA 10), .ref (tA 11), .ref (tA 12), .ref (tA 13), .ref (tA 14)])), (tA 1, .inl (cG, 7, .inr (.inr (.inr (.inr (rfs [tA 2, tA 3, tA 4, tA 5, tA 6, tA 7, tA 8])))))), (tA 2, .inl (cI, 75, .inl (av pr0))), (tA 3, .inl (cI, 75, .inl (av pr1))), (tA 4, .inl (cI, 75, .inl (av pr2))), (tA 5, .inl (cI, 75, .inl (av pr3))), (tA 6, .inl (cI, 75, .inl (av pr4))), (tA 7, .inl (cI, 75, .inl (av pr5))), (tA 8, .inl (cI, 75, .inl (av pr6))), (tA 9, .inl (cI, 75, .inl (av t1))), (tA 10, .inl (cI, 75, .inl (av t2))), (tA 11, .inl (cZ, 75, .inl (av ex))), (tA 12, .inl (cI, 300, .inl (av pt))), (tA 13, .inl (cI, 75, .inl (av pn))), (tA 14, .inl (cI, 75, .inl (av tc))), (xa, .inr (2, [.ref xi, .int (iv xs)])), (xi, .inl (cI, xn, .inl (av xf)))]) (wn := fun u : Int => (wLTR cI cZ cG cR lA lk_19 tA pr0 pr1 pr2 pr3 pr4 pr5 pr6 t1 t2 ex pt pn tc xa xi xn xs xf)) (va_runS (rest := []) ⟨gX, gB, hml, hown, hw0⟩ (c_L_endBetween l dC dI cI cZ cG cR  _ (lk_19 (i - 1)) (lk_19 i) r_61 mk (by rw [hxe]; exact hx9) (by rw [hye]; exact hy9) (by exact hz9) (by exact hm0)) (jcS hw0 kL_endBetween q494 rfl rfl ⟨Nat.le_trans (Nat.le_of_ble_eq_true rfl) hRf, Nat.le_trans (Nat.le_of_ble_eq_true rfl) hRl⟩) (jv_preS hK hP hD [] rfl (by decide)) rfl rfl hl.1 rfl (lv_room (Nat.le_of_ble_eq_true rfl)) dL_endBefore_66 ⟨Nat.zero_le _, Nat.zero_le _⟩) hP hD hS hA [] [0, 1, 2, 3, 4, 5, 6, 7, 8, 9, 10, 11, 12, 13, 14, 15, 16, 17, 18] [0, 1, 2, 3, 4, 5, 6, 7, 8, 9, 10, 11, 12, 13, 14, 15, 16, 17, 18] rfl rfl (by decide) (by decide) (by decide) (fun _ => rfl) (fun r0 u H locs hw66 hP hD hS => ?_)
        obtain ⟨r_66, hu⟩ : ∃ z, z = u := ⟨_, rfl⟩; subst hu
        obtain ⟨rfl, hw66⟩ := hw66
        exact hret _ (r_66, lk_19) dL_endBefore_69 ⟨rfl, by first | (dsimp only; unfold lnf; rw [if_neg (by omega), if_neg (by omega), hw66, hxe, hye, hw61, show i - 1 + 1 = i by omega, osf_congr (g := lk_19) (h := fun j => lkf pr2 xf j.toNat) i.toNat (fun j a b => hw19 j a (by omega))]; exact eb_lb hx9 hy9 (by rw [fl_m (by omega) hx9.1, hmk])) | (unfold lnf; rw [if_neg (by omega), if_neg (by omega), hw66, hxe, hye, hw61, show i - 1 + 1 = i by omega, osf_congr (g := lk_19) (h := fun j => lkf pr2 xf j.toNat) i.toNat (fun j a b => hw19 j a (by omega))]; exact eb_lb hx9 hy9 (by rw [fl_m (by omega) hx9.1, hmk]))⟩ hP hD hS
      refine lv_aload_n (pc := 22) gX gB dL_endBefore_22 rfl (lv_at hl 1 rfl) ?_
      refine lv_aload_n (pc := 23) gX gB dL_endBefore_23 rfl (lv_at hl 2 rfl) ?_
      refine lv_iload_n (pc := 24) gX gB dL_endBefore_24 rfl (lv_at hl 3 rfl) ?_
      refine jv_ri (pc := 25) (wr := [(lA 0, .inr (3, [.ref (lA 1)])), (lA 1, .inl (cI, 40, .inl (av lk_19))), (tA 0, .inr (1, [.ref (tA 1), .ref (tA 9), .ref (tA 10), .ref (tA 11), .ref (tA 12), .ref (tA 13), .ref (tA 14)])), (tA 1, .inl (cG, 7, .inr (.inr (.inr (.inr (rfs [tA 2, tA 3, tA 4, tA 5, tA 6, tA 7, tA 8])))))), (tA 2, .inl (cI, 75, .inl (av pr0))), (tA 3, .inl (cI, 75, .inl (av pr1))), (tA 4, .inl (cI, 75, .inl (av pr2))), (tA 5, .inl (cI, 75, .inl (av pr3))), (tA 6, .inl (cI, 75, .inl (av pr4))), (tA 7, .inl (cI, 75, .inl (av pr5))), (tA 8, .inl (cI, 75, .inl (av pr6))), (tA 9, .inl (cI, 75, .inl (av t1))), (tA 10, .inl (cI, 75, .inl (av t2))), (tA 11, .inl (cZ, 75, .inl (av ex))), (tA 12, .inl (cI, 300, .inl (av pt))), (tA 13, .inl (cI, 75, .inl (av pn))), (tA 14, .inl (cI, 75, .inl (av tc)))]) (wn := fun u : Int => (wLTR cI cZ cG cR lA lk_19 tA pr0 pr1 pr2 pr3 pr4 pr5 pr6 t1 t2 ex pt pn tc xa xi xn xs xf)) (va_runV (rest := [.ref (tA 0)]) ⟨gX, gB, hml, hown, hw0⟩ (c_R_item l dC dI cI cZ cG cR xa xi xn xs xf _ i (by omega) (by omega)) (jcV hw0 kR_item q482 rfl rfl ⟨Nat.le_trans (Nat.le_of_ble_eq_true rfl) hRf, Nat.le_trans (Nat.le_of_ble_eq_true rfl) hRl⟩) (jv_preV (ci := 2) (q0 := 17) hK hP hD [17, 18] rfl (by decide) rfl rfl) rfl rfl hl.1 rfl (lv_room (Nat.le_of_ble_eq_true rfl)) dL_endBefore_25 ⟨Nat.zero_le _, Nat.zero_le _⟩) hP hD hS hA [17, 18] [0, 1, 2, 3, 4, 5, 6, 7, 8, 9, 10, 11, 12, 13, 14, 15, 16] [0, 1, 2, 3, 4, 5, 6, 7, 8, 9, 10, 11, 12, 13, 14, 15, 16, 17, 18] rfl rfl (by decide) (by decide) (by decide) (fun _ => rfl) (fun r0 u H locs hw25 hP hD hS => ?_)
      obtain ⟨r_25, hu⟩ : ∃ z, z = u := ⟨_, rfl⟩; subst hu
      obtain ⟨rfl, hw25⟩ := hw25
      refine jv_ri (pc := 28) (wr := [(lA 0, .inr (3, [.ref (lA 1)])), (lA 1, .inl (cI, 40, .inl (av lk_19))), (xa, .inr (2, [.ref xi, .int (iv xs)])), (xi, .inl (cI, xn, .inl (av xf)))]) (wn := fun u : Int => (wLTR cI cZ cG cR lA lk_19 tA pr0 pr1 pr2 pr3 pr4 pr5 pr6 t1 t2 ex pt pn tc xa xi xn xs xf)) (va_runV (rest := []) ⟨gX, gB, hml, hown, hw0⟩ (c_T_lineClass l dC dI cI cZ cG cR tA pr0 pr1 pr2 pr3 pr4 pr5 pr6 t1 t2 ex pt pn tc _ r_25 (by rw [hw25]; exact hxi)) (jcV hw0 kT_lineClass q483 rfl rfl ⟨Nat.le_trans (Nat.le_of_ble_eq_true rfl) hRf, Nat.le_trans (Nat.le_of_ble_eq_true rfl) hRl⟩) (jv_preV (ci := 1) (q0 := 2) hK hP hD [2, 3, 4, 5, 6, 7, 8, 9, 10, 11, 12, 13, 14, 15, 16] rfl (by decide) rfl rfl) rfl rfl hl.1 rfl (lv_room (Nat.le_of_ble_eq_true rfl)) dL_endBefore_28 ⟨Nat.zero_le _, Nat.zero_le _⟩) hP hD hS hA [2, 3, 4, 5, 6, 7, 8, 9, 10, 11, 12, 13, 14, 15, 16] [0, 1, 17, 18] [0, 1, 4, 5, 6, 7, 8, 9, 10, 11, 12, 13, 14, 15, 16, 17, 18, 2, 3] rfl rfl (by decide) (by decide) (by decide) (fun _ => rfl) (fun r0 u H locs hw28 hP hD hS => ?_)
      obtain ⟨r_28, hu⟩ : ∃ z, z = u := ⟨_, rfl⟩; subst hu
      obtain ⟨rfl, hw28⟩ := hw28
      have hr28 : r_28 = pr2 (xf i) := by rw [hw28, hw25]
      refine lv_bipush (pc := 31) (v := iv 11) gX gB dL_endBefore_31 (by decide) ?_
      refine jv_icmp_ne (pc := 33) (tgt := 40) gX gB dL_endBefore_33 (by decide) (by omega) (by decide) (fun h3 => ?_) (fun h3 => ?_)
      · skip
        refine lv_iconst (pc := 40) (v := iv 0) gX gB dL_endBefore_40 rfl ?_
        exact cut41 0 _ _ _ (by exact ⟨fun q => by omega, fun q => by omega⟩) (by exact Or.inl rfl) (lv_sub hl [0, 3] rfl) hP hD hS
      refine lv_iconst (pc := 36) (v := iv 1) gX gB dL_endBefore_36 rfl ?_
      refine lv_goto (pc := 37) (tgt := 41) gX gB dL_endBefore_37 (by decide) ?_
      exact cut41 1 _ _ _ (by exact ⟨fun _ => by omega, fun _ => rfl⟩) (by exact Or.inr rfl) (lv_sub hl [0, 3] rfl) hP hD hS
    refine lv_iconst (pc := 14) (v := iv 2) gX gB dL_endBefore_14 rfl ?_
    exact hret _ (2, lk) dL_endBefore_15 ⟨rfl, by first | (dsimp only; unfold lnf; rw [if_neg (by omega), if_pos (by omega)]) | (unfold lnf; rw [if_neg (by omega), if_pos (by omega)])⟩ hP hD hS
  refine lv_iconst (pc := 4) (v := iv 0) gX gB dL_endBefore_4 rfl ?_
  exact hret _ (0, lk) dL_endBefore_5 ⟨rfl, by first | (dsimp only; unfold lnf; rw [if_pos (by omega)]) | (unfold lnf; rw [if_pos (by omega)])⟩ hP hD hS
