theorem cl_no {cz tx : Int → Int} {i : Int} (h1 : ¬ (cz (tx (i - 1)) = 1 ∧ cz (tx i) = 2)) (h2 : ¬ ((0 < cz (tx (i - 1)) ∧ cz (tx (i - 1)) < 4) ∨ (0 < cz (tx i) ∧ cz (tx i) < 4))) (h : sylv (tx (i - 1)) (tx i) = 1 ∨ (cz (tx i) = 4 ∨ cz (tx i) = 5 ∨ cz (tx i) = 8 ∨ cz (tx (i - 1)) = 7) ∨ (cz (tx (i - 1)) = 5 ∧ cz (tx i) = 9 ∧ pbf cz tx (i - 1).toNat = 1) ∨ (cz (tx (i - 1)) = 6 ∧ cz (tx i) = 6 ∧ rcf cz tx i.toNat % 2 = 1)) : evf cz tx i = 0 := by
  unfold evf
  rw [if_neg h1, if_neg h2]
  refine if_pos ?_
  rcases h with h | h | h | h
  · exact Or.inl h
  · rcases h with h | h | h | h
    · exact Or.inr (Or.inl h)
    · exact Or.inr (Or.inr (Or.inl h))
    · exact Or.inr (Or.inr (Or.inr (Or.inl h)))
    · exact Or.inr (Or.inr (Or.inr (Or.inr (Or.inl h))))
  · exact Or.inr (Or.inr (Or.inr (Or.inr (Or.inr (Or.inl h)))))
  · exact Or.inr (Or.inr (Or.inr (Or.inr (Or.inr (Or.inr h)))))
theorem cl_yes {cz tx : Int → Int} {i : Int} (h1 : ¬ (cz (tx (i - 1)) = 1 ∧ cz (tx i) = 2)) (h2 : ¬ ((0 < cz (tx (i - 1)) ∧ cz (tx (i - 1)) < 4) ∨ (0 < cz (tx i) ∧ cz (tx i) < 4))) (h3 : ¬ sylv (tx (i - 1)) (tx i) = 1) (h4 : ¬ (cz (tx i) = 4 ∨ cz (tx i) = 5 ∨ cz (tx i) = 8 ∨ cz (tx (i - 1)) = 7)) (h5 : ¬ (cz (tx (i - 1)) = 5 ∧ cz (tx i) = 9 ∧ pbf cz tx (i - 1).toNat = 1)) (h6 : ¬ (cz (tx (i - 1)) = 6 ∧ cz (tx i) = 6 ∧ rcf cz tx i.toNat % 2 = 1)) : evf cz tx i = 1 := by
  unfold evf
  rw [if_neg h1, if_neg h2]
  refine if_neg (fun h => ?_)
  rcases h with h | h | h | h | h | h | h
  · exact h3 h
  · exact h4 (Or.inl h)
  · exact h4 (Or.inr (Or.inl h))
  · exact h4 (Or.inr (Or.inr (Or.inl h)))
  · exact h4 (Or.inr (Or.inr (Or.inr h)))
  · exact h5 h
  · exact h6 h
theorem rc_both {cz tx : Int → Int} {i : Int} (hi : 1 ≤ i) (h : cz (tx i) = 6 ∧ rcf cz tx i.toNat % 2 = 1) : cz (tx (i - 1)) = 6 ∧ cz (tx i) = 6 ∧ rcf cz tx i.toNat % 2 = 1 := by
  refine ⟨?_, h⟩
  have q := rcf_s (cz := cz) (tx := tx) (s := i - 1) (by omega)
  rw [show i - 1 + 1 = i by omega] at q
  by_cases e : cz (tx (i - 1)) = 6
  · exact e
  · rw [if_neg e] at q
    have := h.2
    rw [q] at this
    exact absurd this (by decide)
set_option maxRecDepth 100000 in
set_option maxHeartbeats 1000000 in
theorem c_C_standsAlone (l : Launch) (dC : Nat → ClassId) (dI : Nat → Nat → Nat) (cI : ClassId) (cZ : ClassId) (cG : ClassId) (cR : ClassId)  (sz : Nat) (k : Int) (hk : 0 ≤ k ∧ k ≤ 9) : Met l yC_standsAlone wsC_standsAlone ({ frames := 0, cells := 0, slots := 0, locals := 0 }) (va_Pc [.int (iv k)] (jPre (dC, dI) (jT cI cZ cG cR) (wE cI cZ cG cR) sz)) (va_Qi (fun (r0 : Int32) (u : Int) => r0 = iv u ∧ ((u = 0 ∨ u = 1) ∧ (u = 1 ↔ (0 < k ∧ k < 4)))) (fun u => jEnd (dC, dI) (jT cI cZ cG cR) (va_A (wE cI cZ cG cR) sz) (wE cI cZ cG cR)) (va_A (wE cI cZ cG cR) sz)) 0 0 (va_A (wE cI cZ cG cR) sz) := by
  refine jv_mz (cc := cC_standsAlone) (maxL := 1) (by decide) rfl (Nat.le_of_ble_eq_true rfl) ?_
  intro p0 e0 s0 m0 a0 b0 t0 c0 R0 Q0 A0 ls gX gB hts hown hml hRf hRl hA hK hret hl hP hD hS
  have hown : s0.vm.findClass "TextPipeline$Clusters" = some m0.cls := hown
  have hw0 : ∀ w ∈ WS0, w.before a0 s0 = true := fun w h => hts w (List.mem_cons_of_mem _ h)
  have hl : lv_has ls 1 [(0, .int (iv k))] := hl
  have hRf : 0 ≤ R0.frames := hRf
  have hRl : 0 ≤ R0.locals := hRl
  refine lv_iload_n (pc := 0) gX gB dC_standsAlone_0 rfl (lv_at hl 0 rfl) ?_
  refine lv_iconst (pc := 1) (v := iv 1) gX gB dC_standsAlone_1 rfl ?_
  refine jv_icmp_eq (pc := 2) (tgt := 15) gX gB dC_standsAlone_2 (by decide) (by omega) (by decide) (fun h1 => ?_) (fun h1 => ?_)
  · skip
    refine lv_iconst (pc := 15) (v := iv 1) gX gB dC_standsAlone_15 rfl ?_
    refine lv_goto (pc := 16) (tgt := 20) gX gB dC_standsAlone_16 (by decide) ?_
    exact hret _ (1) dC_standsAlone_20 (Or.inr rfl) ⟨rfl, by omega⟩ hP hD hS
  refine lv_iload_n (pc := 5) gX gB dC_standsAlone_5 rfl (lv_at hl 0 rfl) ?_
  refine lv_iconst (pc := 6) (v := iv 2) gX gB dC_standsAlone_6 rfl ?_
  refine jv_icmp_eq (pc := 7) (tgt := 15) gX gB dC_standsAlone_7 (by decide) (by omega) (by decide) (fun h2 => ?_) (fun h2 => ?_)
  · skip
    refine lv_iconst (pc := 15) (v := iv 1) gX gB dC_standsAlone_15 rfl ?_
    refine lv_goto (pc := 16) (tgt := 20) gX gB dC_standsAlone_16 (by decide) ?_
    exact hret _ (1) dC_standsAlone_20 (Or.inr rfl) ⟨rfl, by omega⟩ hP hD hS
  refine lv_iload_n (pc := 10) gX gB dC_standsAlone_10 rfl (lv_at hl 0 rfl) ?_
  refine lv_iconst (pc := 11) (v := iv 3) gX gB dC_standsAlone_11 rfl ?_
  refine jv_icmp_ne (pc := 12) (tgt := 19) gX gB dC_standsAlone_12 (by decide) (by omega) (by decide) (fun h3 => ?_) (fun h3 => ?_)
  · skip
    refine lv_iconst (pc := 19) (v := iv 0) gX gB dC_standsAlone_19 rfl ?_
    exact hret _ (0) dC_standsAlone_20 (Or.inl rfl) ⟨rfl, by omega⟩ hP hD hS
  refine lv_iconst (pc := 15) (v := iv 1) gX gB dC_standsAlone_15 rfl ?_
  refine lv_goto (pc := 16) (tgt := 20) gX gB dC_standsAlone_16 (by decide) ?_
  exact hret _ (1) dC_standsAlone_20 (Or.inr rfl) ⟨rfl, by omega⟩ hP hD hS
set_option maxRecDepth 100000 in
set_option maxHeartbeats 1000000 in
theorem c_C_isAttached (l : Launch) (dC : Nat → ClassId) (dI : Nat → Nat → Nat) (cI : ClassId) (cZ : ClassId) (cG : ClassId) (cR : ClassId)  (sz : Nat) (x : Int) (y : Int) (hx9 : 0 ≤ x ∧ x ≤ 9) (hy9 : 0 ≤ y ∧ y ≤ 9) : Met l yC_isAttached wsC_isAttached ({ frames := 0, cells := 0, slots := 0, locals := 0 }) (va_Pc [.int (iv x), .int (iv y)] (jPre (dC, dI) (jT cI cZ cG cR) (wE cI cZ cG cR) sz)) (va_Qi (fun (r0 : Int32) (u : Int) => r0 = iv u ∧ ((u = 0 ∨ u = 1) ∧ (u = 1 ↔ (y = 4 ∨ y = 5 ∨ y = 8 ∨ x = 7)))) (fun u => jEnd (dC, dI) (jT cI cZ cG cR) (va_A (wE cI cZ cG cR) sz) (wE cI cZ cG cR)) (va_A (wE cI cZ cG cR) sz)) 0 0 (va_A (wE cI cZ cG cR) sz) := by
  refine jv_mz (cc := cC_isAttached) (maxL := 2) (by decide) rfl (Nat.le_of_ble_eq_true rfl) ?_
  intro p0 e0 s0 m0 a0 b0 t0 c0 R0 Q0 A0 ls gX gB hts hown hml hRf hRl hA hK hret hl hP hD hS
  have hown : s0.vm.findClass "TextPipeline$Clusters" = some m0.cls := hown
  have hw0 : ∀ w ∈ WS0, w.before a0 s0 = true := fun w h => hts w (List.mem_cons_of_mem _ h)
  have hl : lv_has ls 2 [(0, .int (iv x)), (1, .int (iv y))] := hl
  have hRf : 0 ≤ R0.frames := hRf
  have hRl : 0 ≤ R0.locals := hRl
  refine lv_iload_n (pc := 0) gX gB dC_isAttached_0 rfl (lv_at hl 1 rfl) ?_
  refine lv_iconst (pc := 1) (v := iv 4) gX gB dC_isAttached_1 rfl ?_
  refine jv_icmp_eq (pc := 2) (tgt := 22) gX gB dC_isAttached_2 (by decide) (by omega) (by decide) (fun h1 => ?_) (fun h1 => ?_)
  · skip
    refine lv_iconst (pc := 22) (v := iv 1) gX gB dC_isAttached_22 rfl ?_
    refine lv_goto (pc := 23) (tgt := 27) gX gB dC_isAttached_23 (by decide) ?_
    exact hret _ (1) dC_isAttached_27 (Or.inr rfl) ⟨rfl, by omega⟩ hP hD hS
  refine lv_iload_n (pc := 5) gX gB dC_isAttached_5 rfl (lv_at hl 1 rfl) ?_
  refine lv_iconst (pc := 6) (v := iv 5) gX gB dC_isAttached_6 rfl ?_
  refine jv_icmp_eq (pc := 7) (tgt := 22) gX gB dC_isAttached_7 (by decide) (by omega) (by decide) (fun h2 => ?_) (fun h2 => ?_)
  · skip
    refine lv_iconst (pc := 22) (v := iv 1) gX gB dC_isAttached_22 rfl ?_
    refine lv_goto (pc := 23) (tgt := 27) gX gB dC_isAttached_23 (by decide) ?_
    exact hret _ (1) dC_isAttached_27 (Or.inr rfl) ⟨rfl, by omega⟩ hP hD hS
  refine lv_iload_n (pc := 10) gX gB dC_isAttached_10 rfl (lv_at hl 1 rfl) ?_
  refine lv_bipush (pc := 11) (v := iv 8) gX gB dC_isAttached_11 (by decide) ?_
  refine jv_icmp_eq (pc := 13) (tgt := 22) gX gB dC_isAttached_13 (by decide) (by omega) (by decide) (fun h3 => ?_) (fun h3 => ?_)
  · skip
    refine lv_iconst (pc := 22) (v := iv 1) gX gB dC_isAttached_22 rfl ?_
    refine lv_goto (pc := 23) (tgt := 27) gX gB dC_isAttached_23 (by decide) ?_
    exact hret _ (1) dC_isAttached_27 (Or.inr rfl) ⟨rfl, by omega⟩ hP hD hS
  refine lv_iload_n (pc := 16) gX gB dC_isAttached_16 rfl (lv_at hl 0 rfl) ?_
  refine lv_bipush (pc := 17) (v := iv 7) gX gB dC_isAttached_17 (by decide) ?_
  refine jv_icmp_ne (pc := 19) (tgt := 26) gX gB dC_isAttached_19 (by decide) (by omega) (by decide) (fun h4 => ?_) (fun h4 => ?_)
  · skip
    refine lv_iconst (pc := 26) (v := iv 0) gX gB dC_isAttached_26 rfl ?_
    exact hret _ (0) dC_isAttached_27 (Or.inl rfl) ⟨rfl, by omega⟩ hP hD hS
  refine lv_iconst (pc := 22) (v := iv 1) gX gB dC_isAttached_22 rfl ?_
  refine lv_goto (pc := 23) (tgt := 27) gX gB dC_isAttached_23 (by decide) ?_
  exact hret _ (1) dC_isAttached_27 (Or.inr rfl) ⟨rfl, by omega⟩ hP hD hS
set_option maxRecDepth 100000 in
set_option maxHeartbeats 1000000 in
theorem c_C_staysInSyllable (l : Launch) (dC : Nat → ClassId) (dI : Nat → Nat → Nat) (cI : ClassId) (cZ : ClassId) (cG : ClassId) (cR : ClassId)  (sz : Nat) (x : Int) (y : Int) (hx9 : 0 ≤ x ∧ x < 75) (hy9 : 0 ≤ y ∧ y < 75) : Met l yC_staysInSyllable wsC_staysInSyllable ({ frames := 2, cells := 0, slots := 0, locals := 40 }) (va_Pc [.int (iv x), .int (iv y)] (jPre (dC, dI) (jT cI cZ cG cR) (wE cI cZ cG cR) sz)) (va_Qi (fun (r0 : Int32) (u : Int) => r0 = iv u ∧ ((u = 0 ∨ u = 1) ∧ u = sylv x y)) (fun u => jEnd (dC, dI) (jT cI cZ cG cR) (va_A (wE cI cZ cG cR) sz) (wE cI cZ cG cR)) (va_A (wE cI cZ cG cR) sz)) 0 0 (va_A (wE cI cZ cG cR) sz) := by
  refine jv_mz (cc := cC_staysInSyllable) (maxL := 2) (by decide) rfl (Nat.le_of_ble_eq_true rfl) ?_
  intro p0 e0 s0 m0 a0 b0 t0 c0 R0 Q0 A0 ls gX gB hts hown hml hRf hRl hA hK hret hl hP hD hS
  have hown : s0.vm.findClass "TextPipeline$Clusters" = some m0.cls := hown
  have hw0 : ∀ w ∈ WS0, w.before a0 s0 = true := fun w h => hts w (List.mem_cons_of_mem _ h)
  have hl : lv_has ls 2 [(0, .int (iv x)), (1, .int (iv y))] := hl
  have hRf : 2 ≤ R0.frames := hRf
  have hRl : 40 ≤ R0.locals := hRl
  have cut34 : ∀ (ls : Array Slot) (H : Heap) (locs : List Loc), (¬ (40 ≤ x ∧ x < 43)) → lv_has ls 2 [(0, .int (iv x)), (1, .int (iv y))] → va_P (dC, dI) vwCl (wE cI cZ cG cR) H → va_D A0 (wE cI cZ cG cR) → va_S A0 s0.heap H locs → W p0 l e0 R0 s0 m0 a0 b0 t0 c0 H locs 0 0 Q0 (F0 m0 34 ls []) := by
    intro  ls H locs h34 hl hP hD hS
    have cut75 : ∀ (ls : Array Slot) (H : Heap) (locs : List Loc), (¬ ((43 ≤ x ∧ x < 46) ∨ (47 < x ∧ x % 3 = 0))) → lv_has ls 2 [(0, .int (iv x)), (1, .int (iv y))] → va_P (dC, dI) vwCl (wE cI cZ cG cR) H → va_D A0 (wE cI cZ cG cR) → va_S A0 s0.heap H locs → W p0 l e0 R0 s0 m0 a0 b0 t0 c0 H locs 0 0 Q0 (F0 m0 75 ls []) := by
      intro  ls H locs h75 hl hP hD hS
      have cut100 : ∀ (ls : Array Slot) (H : Heap) (locs : List Loc), (¬ (((46 ≤ x ∧ x < 48) ∨ (47 < x ∧ x % 3 ≠ 0)) ∧ (46 ≤ y ∧ y < 48))) → lv_has ls 2 [(0, .int (iv x)), (1, .int (iv y))] → va_P (dC, dI) vwCl (wE cI cZ cG cR) H → va_D A0 (wE cI cZ cG cR) → va_S A0 s0.heap H locs → W p0 l e0 R0 s0 m0 a0 b0 t0 c0 H locs 0 0 Q0 (F0 m0 100 ls []) := by
        intro  ls H locs h100 hl hP hD hS
        refine lv_iconst (pc := 100) (v := iv 0) gX gB dC_staysInSyllable_100 rfl ?_
        exact hret _ (0) dC_staysInSyllable_101 (Or.inl rfl) ⟨rfl, by first | (refine ⟨Or.inl rfl, ?_⟩; unfold sylv; exact (if_neg (fun h => by rcases h with h | h | h; (exact h34 h.1); (exact h75 h.1); (exact h100 h))).symm) | (refine ⟨Or.inr rfl, ?_⟩; unfold sylv; exact (if_pos (Or.inr (Or.inr ⟨h89, by omega⟩))).symm)⟩ hP hD hS
      have cut89 : ∀ (ls : Array Slot) (H : Heap) (locs : List Loc), (((46 ≤ x ∧ x < 48) ∨ (47 < x ∧ x % 3 ≠ 0))) → lv_has ls 2 [(0, .int (iv x)), (1, .int (iv y))] → va_P (dC, dI) vwCl (wE cI cZ cG cR) H → va_D A0 (wE cI cZ cG cR) → va_S A0 s0.heap H locs → W p0 l e0 R0 s0 m0 a0 b0 t0 c0 H locs 0 0 Q0 (F0 m0 89 ls []) := by
        intro  ls H locs h89 hl hP hD hS
        refine lv_iload_n (pc := 89) gX gB dC_staysInSyllable_89 rfl (lv_at hl 1 rfl) ?_
        refine jv_ri (pc := 90) (wr := []) (wn := fun u : Int => (wE cI cZ cG cR)) (va_runS (rest := []) ⟨gX, gB, hml, hown, hw0⟩ (c_T_isTail l dC dI cI cZ cG cR  _ y (by omega)) (jcS hw0 kT_isTail q209 rfl rfl ⟨Nat.le_trans (Nat.le_of_ble_eq_true rfl) hRf, Nat.le_trans (Nat.le_of_ble_eq_true rfl) hRl⟩) (jv_preS hK hP hD [] rfl (by decide)) rfl rfl hl.1 rfl (lv_room (Nat.le_of_ble_eq_true rfl)) dC_staysInSyllable_90 ⟨Nat.zero_le _, Nat.zero_le _⟩) hP hD hS hA [] [] [] rfl rfl (by decide) (by decide) (by decide) (fun _ => rfl) (fun r0 u H locs hw90 hP hD hS => ?_)
        obtain ⟨r_90, hu⟩ : ∃ z, z = u := ⟨_, rfl⟩; subst hu
        obtain ⟨rfl, hw90⟩ := hw90
        refine jv_if_eq (pc := 93) (tgt := 100) gX gB dC_staysInSyllable_93 (by decide) (by omega) (fun h1 => ?_) (fun h1 => ?_)
        · skip
          exact cut100  _ _ _ (by omega) hl hP hD hS
        refine lv_iconst (pc := 96) (v := iv 1) gX gB dC_staysInSyllable_96 rfl ?_
        refine lv_goto (pc := 97) (tgt := 101) gX gB dC_staysInSyllable_97 (by decide) ?_
        exact hret _ (1) dC_staysInSyllable_101 (Or.inr rfl) ⟨rfl, by first | (refine ⟨Or.inl rfl, ?_⟩; unfold sylv; exact (if_neg (fun h => by rcases h with h | h | h; (exact h34 h.1); (exact h75 h.1); (exact h100 h))).symm) | (refine ⟨Or.inr rfl, ?_⟩; unfold sylv; exact (if_pos (Or.inr (Or.inr ⟨h89, by omega⟩))).symm)⟩ hP hD hS
      refine lv_iload_n (pc := 75) gX gB dC_staysInSyllable_75 rfl (lv_at hl 0 rfl) ?_
      refine jv_ri (pc := 76) (wr := []) (wn := fun u : Int => (wE cI cZ cG cR)) (va_runS (rest := []) ⟨gX, gB, hml, hown, hw0⟩ (c_T_isTail l dC dI cI cZ cG cR  _ x (by omega)) (jcS hw0 kT_isTail q209 rfl rfl ⟨Nat.le_trans (Nat.le_of_ble_eq_true rfl) hRf, Nat.le_trans (Nat.le_of_ble_eq_true rfl) hRl⟩) (jv_preS hK hP hD [] rfl (by decide)) rfl rfl hl.1 rfl (lv_room (Nat.le_of_ble_eq_true rfl)) dC_staysInSyllable_76 ⟨Nat.zero_le _, Nat.zero_le _⟩) hP hD hS hA [] [] [] rfl rfl (by decide) (by decide) (by decide) (fun _ => rfl) (fun r0 u H locs hw76 hP hD hS => ?_)
      obtain ⟨r_76, hu⟩ : ∃ z, z = u := ⟨_, rfl⟩; subst hu
      obtain ⟨rfl, hw76⟩ := hw76
      refine jv_if_ne (pc := 79) (tgt := 89) gX gB dC_staysInSyllable_79 (by decide) (by omega) (fun h2 => ?_) (fun h2 => ?_)
      · skip
        exact cut89  _ _ _ (by omega) hl hP hD hS
      refine lv_iload_n (pc := 82) gX gB dC_staysInSyllable_82 rfl (lv_at hl 0 rfl) ?_
      refine jv_ri (pc := 83) (wr := []) (wn := fun u : Int => (wE cI cZ cG cR)) (va_runS (rest := []) ⟨gX, gB, hml, hown, hw0⟩ (c_T_hasTail l dC dI cI cZ cG cR  _ x (by omega)) (jcS hw0 kT_hasTail q205 rfl rfl ⟨Nat.le_trans (Nat.le_of_ble_eq_true rfl) hRf, Nat.le_trans (Nat.le_of_ble_eq_true rfl) hRl⟩) (jv_preS hK hP hD [] rfl (by decide)) rfl rfl hl.1 rfl (lv_room (Nat.le_of_ble_eq_true rfl)) dC_staysInSyllable_83 ⟨Nat.zero_le _, Nat.zero_le _⟩) hP hD hS hA [] [] [] rfl rfl (by decide) (by decide) (by decide) (fun _ => rfl) (fun r0 u H locs hw83 hP hD hS => ?_)
      obtain ⟨r_83, hu⟩ : ∃ z, z = u := ⟨_, rfl⟩; subst hu
      obtain ⟨rfl, hw83⟩ := hw83
      refine jv_if_eq (pc := 86) (tgt := 100) gX gB dC_staysInSyllable_86 (by decide) (by omega) (fun h3 => ?_) (fun h3 => ?_)
      · skip
        exact cut100  _ _ _ (by omega) hl hP hD hS
      exact cut89  _ _ _ (by omega) hl hP hD hS
    have cut55 : ∀ (ls : Array Slot) (H : Heap) (locs : List Loc), (((43 ≤ x ∧ x < 46) ∨ (47 < x ∧ x % 3 = 0))) → lv_has ls 2 [(0, .int (iv x)), (1, .int (iv y))] → va_P (dC, dI) vwCl (wE cI cZ cG cR) H → va_D A0 (wE cI cZ cG cR) → va_S A0 s0.heap H locs → W p0 l e0 R0 s0 m0 a0 b0 t0 c0 H locs 0 0 Q0 (F0 m0 55 ls []) := by
      intro  ls H locs h55 hl hP hD hS
      have cut73 : ∀ (ls : Array Slot) (H : Heap) (locs : List Loc), (¬ ((43 ≤ y ∧ y < 46) ∨ (46 ≤ y ∧ y < 48))) → lv_has ls 2 [(0, .int (iv x)), (1, .int (iv y))] → va_P (dC, dI) vwCl (wE cI cZ cG cR) H → va_D A0 (wE cI cZ cG cR) → va_S A0 s0.heap H locs → W p0 l e0 R0 s0 m0 a0 b0 t0 c0 H locs 0 0 Q0 (F0 m0 73 ls []) := by
        intro  ls H locs h73 hl hP hD hS
        refine lv_iconst (pc := 73) (v := iv 0) gX gB dC_staysInSyllable_73 rfl ?_
        exact hret _ (0) dC_staysInSyllable_74 (Or.inl rfl) ⟨rfl, by first | (refine ⟨Or.inr rfl, ?_⟩; unfold sylv; exact (if_pos (Or.inr (Or.inl ⟨h55, h69⟩))).symm) | (refine ⟨Or.inl rfl, ?_⟩; unfold sylv; exact (if_neg (fun h => by rcases h with h | h | h; (exact h34 h.1); (exact h73 h.2); (have a := h.1; clear h h73 h34; omega))).symm)⟩ hP hD hS
      have cut69 : ∀ (ls : Array Slot) (H : Heap) (locs : List Loc), (((43 ≤ y ∧ y < 46) ∨ (46 ≤ y ∧ y < 48))) → lv_has ls 2 [(0, .int (iv x)), (1, .int (iv y))] → va_P (dC, dI) vwCl (wE cI cZ cG cR) H → va_D A0 (wE cI cZ cG cR) → va_S A0 s0.heap H locs → W p0 l e0 R0 s0 m0 a0 b0 t0 c0 H locs 0 0 Q0 (F0 m0 69 ls []) := by
        intro  ls H locs h69 hl hP hD hS
        refine lv_iconst (pc := 69) (v := iv 1) gX gB dC_staysInSyllable_69 rfl ?_
        refine lv_goto (pc := 70) (tgt := 74) gX gB dC_staysInSyllable_70 (by decide) ?_
        exact hret _ (1) dC_staysInSyllable_74 (Or.inr rfl) ⟨rfl, by first | (refine ⟨Or.inr rfl, ?_⟩; unfold sylv; exact (if_pos (Or.inr (Or.inl ⟨h55, h69⟩))).symm) | (refine ⟨Or.inl rfl, ?_⟩; unfold sylv; exact (if_neg (fun h => by rcases h with h | h | h; (exact h34 h.1); (exact h73 h.2); (have a := h.1; clear h h73 h34; omega))).symm)⟩ hP hD hS
      refine lv_iload_n (pc := 55) gX gB dC_staysInSyllable_55 rfl (lv_at hl 1 rfl) ?_
      refine jv_ri (pc := 56) (wr := []) (wn := fun u : Int => (wE cI cZ cG cR)) (va_runS (rest := []) ⟨gX, gB, hml, hown, hw0⟩ (c_T_isVowel l dC dI cI cZ cG cR  _ y (by omega)) (jcS hw0 kT_isVowel q199 rfl rfl ⟨Nat.le_trans (Nat.le_of_ble_eq_true rfl) hRf, Nat.le_trans (Nat.le_of_ble_eq_true rfl) hRl⟩) (jv_preS hK hP hD [] rfl (by decide)) rfl rfl hl.1 rfl (lv_room (Nat.le_of_ble_eq_true rfl)) dC_staysInSyllable_56 ⟨Nat.zero_le _, Nat.zero_le _⟩) hP hD hS hA [] [] [] rfl rfl (by decide) (by decide) (by decide) (fun _ => rfl) (fun r0 u H locs hw56 hP hD hS => ?_)
      obtain ⟨r_56, hu⟩ : ∃ z, z = u := ⟨_, rfl⟩; subst hu
      obtain ⟨rfl, hw56⟩ := hw56
      refine jv_if_ne (pc := 59) (tgt := 69) gX gB dC_staysInSyllable_59 (by decide) (by omega) (fun h4 => ?_) (fun h4 => ?_)
      · skip
        exact cut69  _ _ _ (by omega) hl hP hD hS
      refine lv_iload_n (pc := 62) gX gB dC_staysInSyllable_62 rfl (lv_at hl 1 rfl) ?_
      refine jv_ri (pc := 63) (wr := []) (wn := fun u : Int => (wE cI cZ cG cR)) (va_runS (rest := []) ⟨gX, gB, hml, hown, hw0⟩ (c_T_isTail l dC dI cI cZ cG cR  _ y (by omega)) (jcS hw0 kT_isTail q209 rfl rfl ⟨Nat.le_trans (Nat.le_of_ble_eq_true rfl) hRf, Nat.le_trans (Nat.le_of_ble_eq_true rfl) hRl⟩) (jv_preS hK hP hD [] rfl (by decide)) rfl rfl hl.1 rfl (lv_room (Nat.le_of_ble_eq_true rfl)) dC_staysInSyllable_63 ⟨Nat.zero_le _, Nat.zero_le _⟩) hP hD hS hA [] [] [] rfl rfl (by decide) (by decide) (by decide) (fun _ => rfl) (fun r0 u H locs hw63 hP hD hS => ?_)
      obtain ⟨r_63, hu⟩ : ∃ z, z = u := ⟨_, rfl⟩; subst hu
      obtain ⟨rfl, hw63⟩ := hw63
      refine jv_if_eq (pc := 66) (tgt := 73) gX gB dC_staysInSyllable_66 (by decide) (by omega) (fun h5 => ?_) (fun h5 => ?_)
      · skip
        exact cut73  _ _ _ (by omega) hl hP hD hS
      exact cut69  _ _ _ (by omega) hl hP hD hS
    refine lv_iload_n (pc := 34) gX gB dC_staysInSyllable_34 rfl (lv_at hl 0 rfl) ?_
    refine jv_ri (pc := 35) (wr := []) (wn := fun u : Int => (wE cI cZ cG cR)) (va_runS (rest := []) ⟨gX, gB, hml, hown, hw0⟩ (c_T_isVowel l dC dI cI cZ cG cR  _ x (by omega)) (jcS hw0 kT_isVowel q199 rfl rfl ⟨Nat.le_trans (Nat.le_of_ble_eq_true rfl) hRf, Nat.le_trans (Nat.le_of_ble_eq_true rfl) hRl⟩) (jv_preS hK hP hD [] rfl (by decide)) rfl rfl hl.1 rfl (lv_room (Nat.le_of_ble_eq_true rfl)) dC_staysInSyllable_35 ⟨Nat.zero_le _, Nat.zero_le _⟩) hP hD hS hA [] [] [] rfl rfl (by decide) (by decide) (by decide) (fun _ => rfl) (fun r0 u H locs hw35 hP hD hS => ?_)
    obtain ⟨r_35, hu⟩ : ∃ z, z = u := ⟨_, rfl⟩; subst hu
    obtain ⟨rfl, hw35⟩ := hw35
    refine jv_if_ne (pc := 38) (tgt := 55) gX gB dC_staysInSyllable_38 (by decide) (by omega) (fun h6 => ?_) (fun h6 => ?_)
    · skip
      exact cut55  _ _ _ (by omega) hl hP hD hS
    refine lv_iload_n (pc := 41) gX gB dC_staysInSyllable_41 rfl (lv_at hl 0 rfl) ?_
    refine jv_ri (pc := 42) (wr := []) (wn := fun u : Int => (wE cI cZ cG cR)) (va_runS (rest := []) ⟨gX, gB, hml, hown, hw0⟩ (c_T_isSyllable l dC dI cI cZ cG cR  _ x (by omega)) (jcS hw0 kT_isSyllable q202 rfl rfl ⟨Nat.le_trans (Nat.le_of_ble_eq_true rfl) hRf, Nat.le_trans (Nat.le_of_ble_eq_true rfl) hRl⟩) (jv_preS hK hP hD [] rfl (by decide)) rfl rfl hl.1 rfl (lv_room (Nat.le_of_ble_eq_true rfl)) dC_staysInSyllable_42 ⟨Nat.zero_le _, Nat.zero_le _⟩) hP hD hS hA [] [] [] rfl rfl (by decide) (by decide) (by decide) (fun _ => rfl) (fun r0 u H locs hw42 hP hD hS => ?_)
    obtain ⟨r_42, hu⟩ : ∃ z, z = u := ⟨_, rfl⟩; subst hu
    obtain ⟨rfl, hw42⟩ := hw42
    refine jv_if_eq (pc := 45) (tgt := 75) gX gB dC_staysInSyllable_45 (by decide) (by omega) (fun h7 => ?_) (fun h7 => ?_)
    · skip
      exact cut75  _ _ _ (by omega) hl hP hD hS
    refine lv_iload_n (pc := 48) gX gB dC_staysInSyllable_48 rfl (lv_at hl 0 rfl) ?_
    refine jv_ri (pc := 49) (wr := []) (wn := fun u : Int => (wE cI cZ cG cR)) (va_runS (rest := []) ⟨gX, gB, hml, hown, hw0⟩ (c_T_hasTail l dC dI cI cZ cG cR  _ x (by omega)) (jcS hw0 kT_hasTail q205 rfl rfl ⟨Nat.le_trans (Nat.le_of_ble_eq_true rfl) hRf, Nat.le_trans (Nat.le_of_ble_eq_true rfl) hRl⟩) (jv_preS hK hP hD [] rfl (by decide)) rfl rfl hl.1 rfl (lv_room (Nat.le_of_ble_eq_true rfl)) dC_staysInSyllable_49 ⟨Nat.zero_le _, Nat.zero_le _⟩) hP hD hS hA [] [] [] rfl rfl (by decide) (by decide) (by decide) (fun _ => rfl) (fun r0 u H locs hw49 hP hD hS => ?_)
    obtain ⟨r_49, hu⟩ : ∃ z, z = u := ⟨_, rfl⟩; subst hu
    obtain ⟨rfl, hw49⟩ := hw49
    refine jv_if_ne (pc := 52) (tgt := 75) gX gB dC_staysInSyllable_52 (by decide) (by omega) (fun h8 => ?_) (fun h8 => ?_)
    · skip
      exact cut75  _ _ _ (by omega) hl hP hD hS
    exact cut55  _ _ _ (by omega) hl hP hD hS
  have cut32 : ∀ (ls : Array Slot) (H : Heap) (locs : List Loc), ((40 ≤ x ∧ x < 43) ∧ ¬ ((40 ≤ y ∧ y < 43) ∨ (43 ≤ y ∧ y < 46) ∨ 47 < y)) → lv_has ls 2 [(0, .int (iv x)), (1, .int (iv y))] → va_P (dC, dI) vwCl (wE cI cZ cG cR) H → va_D A0 (wE cI cZ cG cR) → va_S A0 s0.heap H locs → W p0 l e0 R0 s0 m0 a0 b0 t0 c0 H locs 0 0 Q0 (F0 m0 32 ls []) := by
    intro  ls H locs h32 hl hP hD hS
    refine lv_iconst (pc := 32) (v := iv 0) gX gB dC_staysInSyllable_32 rfl ?_
    exact hret _ (0) dC_staysInSyllable_33 (Or.inl rfl) ⟨rfl, by first | (refine ⟨Or.inr rfl, ?_⟩; unfold sylv; exact (if_pos (Or.inl h28)).symm) | (refine ⟨Or.inl rfl, ?_⟩; unfold sylv; exact (if_neg (fun h => by rcases h with h | h | h; (exact h32.2 h.2); (have a := h.1; have b := h32.1; clear h h32; omega); (have a := h.1; have b := h32.1; clear h h32; omega))).symm)⟩ hP hD hS
  have cut28 : ∀ (ls : Array Slot) (H : Heap) (locs : List Loc), ((40 ≤ x ∧ x < 43) ∧ ((40 ≤ y ∧ y < 43) ∨ (43 ≤ y ∧ y < 46) ∨ 47 < y)) → lv_has ls 2 [(0, .int (iv x)), (1, .int (iv y))] → va_P (dC, dI) vwCl (wE cI cZ cG cR) H → va_D A0 (wE cI cZ cG cR) → va_S A0 s0.heap H locs → W p0 l e0 R0 s0 m0 a0 b0 t0 c0 H locs 0 0 Q0 (F0 m0 28 ls []) := by
    intro  ls H locs h28 hl hP hD hS
    refine lv_iconst (pc := 28) (v := iv 1) gX gB dC_staysInSyllable_28 rfl ?_
    refine lv_goto (pc := 29) (tgt := 33) gX gB dC_staysInSyllable_29 (by decide) ?_
    exact hret _ (1) dC_staysInSyllable_33 (Or.inr rfl) ⟨rfl, by first | (refine ⟨Or.inr rfl, ?_⟩; unfold sylv; exact (if_pos (Or.inl h28)).symm) | (refine ⟨Or.inl rfl, ?_⟩; unfold sylv; exact (if_neg (fun h => by rcases h with h | h | h; (exact h32.2 h.2); (have a := h.1; have b := h32.1; clear h h32; omega); (have a := h.1; have b := h32.1; clear h h32; omega))).symm)⟩ hP hD hS
  refine lv_iload_n (pc := 0) gX gB dC_staysInSyllable_0 rfl (lv_at hl 0 rfl) ?_
  refine jv_ri (pc := 1) (wr := []) (wn := fun u : Int => (wE cI cZ cG cR)) (va_runS (rest := []) ⟨gX, gB, hml, hown, hw0⟩ (c_T_isLead l dC dI cI cZ cG cR  _ x (by omega)) (jcS hw0 kT_isLead q196 rfl rfl ⟨Nat.le_trans (Nat.le_of_ble_eq_true rfl) hRf, Nat.le_trans (Nat.le_of_ble_eq_true rfl) hRl⟩) (jv_preS hK hP hD [] rfl (by decide)) rfl rfl hl.1 rfl (lv_room (Nat.le_of_ble_eq_true rfl)) dC_staysInSyllable_1 ⟨Nat.zero_le _, Nat.zero_le _⟩) hP hD hS hA [] [] [] rfl rfl (by decide) (by decide) (by decide) (fun _ => rfl) (fun r0 u H locs hw1 hP hD hS => ?_)
  obtain ⟨r_1, hu⟩ : ∃ z, z = u := ⟨_, rfl⟩; subst hu
  obtain ⟨rfl, hw1⟩ := hw1
  refine jv_if_eq (pc := 4) (tgt := 34) gX gB dC_staysInSyllable_4 (by decide) (by omega) (fun h9 => ?_) (fun h9 => ?_)
  · skip
    exact cut34  _ _ _ (by omega) hl hP hD hS
  refine lv_iload_n (pc := 7) gX gB dC_staysInSyllable_7 rfl (lv_at hl 1 rfl) ?_
  refine jv_ri (pc := 8) (wr := []) (wn := fun u : Int => (wE cI cZ cG cR)) (va_runS (rest := []) ⟨gX, gB, hml, hown, hw0⟩ (c_T_isLead l dC dI cI cZ cG cR  _ y (by omega)) (jcS hw0 kT_isLead q196 rfl rfl ⟨Nat.le_trans (Nat.le_of_ble_eq_true rfl) hRf, Nat.le_trans (Nat.le_of_ble_eq_true rfl) hRl⟩) (jv_preS hK hP hD [] rfl (by decide)) rfl rfl hl.1 rfl (lv_room (Nat.le_of_ble_eq_true rfl)) dC_staysInSyllable_8 ⟨Nat.zero_le _, Nat.zero_le _⟩) hP hD hS hA [] [] [] rfl rfl (by decide) (by decide) (by decide) (fun _ => rfl) (fun r0 u H locs hw8 hP hD hS => ?_)
  obtain ⟨r_8, hu⟩ : ∃ z, z = u := ⟨_, rfl⟩; subst hu
  obtain ⟨rfl, hw8⟩ := hw8
  refine jv_if_ne (pc := 11) (tgt := 28) gX gB dC_staysInSyllable_11 (by decide) (by omega) (fun h10 => ?_) (fun h10 => ?_)
  · skip
    exact cut28  _ _ _ (by omega) hl hP hD hS
  refine lv_iload_n (pc := 14) gX gB dC_staysInSyllable_14 rfl (lv_at hl 1 rfl) ?_
  refine jv_ri (pc := 15) (wr := []) (wn := fun u : Int => (wE cI cZ cG cR)) (va_runS (rest := []) ⟨gX, gB, hml, hown, hw0⟩ (c_T_isVowel l dC dI cI cZ cG cR  _ y (by omega)) (jcS hw0 kT_isVowel q199 rfl rfl ⟨Nat.le_trans (Nat.le_of_ble_eq_true rfl) hRf, Nat.le_trans (Nat.le_of_ble_eq_true rfl) hRl⟩) (jv_preS hK hP hD [] rfl (by decide)) rfl rfl hl.1 rfl (lv_room (Nat.le_of_ble_eq_true rfl)) dC_staysInSyllable_15 ⟨Nat.zero_le _, Nat.zero_le _⟩) hP hD hS hA [] [] [] rfl rfl (by decide) (by decide) (by decide) (fun _ => rfl) (fun r0 u H locs hw15 hP hD hS => ?_)
  obtain ⟨r_15, hu⟩ : ∃ z, z = u := ⟨_, rfl⟩; subst hu
  obtain ⟨rfl, hw15⟩ := hw15
  refine jv_if_ne (pc := 18) (tgt := 28) gX gB dC_staysInSyllable_18 (by decide) (by omega) (fun h11 => ?_) (fun h11 => ?_)
  · skip
    exact cut28  _ _ _ (by omega) hl hP hD hS
  refine lv_iload_n (pc := 21) gX gB dC_staysInSyllable_21 rfl (lv_at hl 1 rfl) ?_
  refine jv_ri (pc := 22) (wr := []) (wn := fun u : Int => (wE cI cZ cG cR)) (va_runS (rest := []) ⟨gX, gB, hml, hown, hw0⟩ (c_T_isSyllable l dC dI cI cZ cG cR  _ y (by omega)) (jcS hw0 kT_isSyllable q202 rfl rfl ⟨Nat.le_trans (Nat.le_of_ble_eq_true rfl) hRf, Nat.le_trans (Nat.le_of_ble_eq_true rfl) hRl⟩) (jv_preS hK hP hD [] rfl (by decide)) rfl rfl hl.1 rfl (lv_room (Nat.le_of_ble_eq_true rfl)) dC_staysInSyllable_22 ⟨Nat.zero_le _, Nat.zero_le _⟩) hP hD hS hA [] [] [] rfl rfl (by decide) (by decide) (by decide) (fun _ => rfl) (fun r0 u H locs hw22 hP hD hS => ?_)
  obtain ⟨r_22, hu⟩ : ∃ z, z = u := ⟨_, rfl⟩; subst hu
  obtain ⟨rfl, hw22⟩ := hw22
  refine jv_if_eq (pc := 25) (tgt := 32) gX gB dC_staysInSyllable_25 (by decide) (by omega) (fun h12 => ?_) (fun h12 => ?_)
  · skip
    exact cut32  _ _ _ (by omega) hl hP hD hS
  exact cut28  _ _ _ (by omega) hl hP hD hS
set_option maxRecDepth 100000 in
set_option maxHeartbeats 1000000 in
theorem c_C_isJoinedPicture (l : Launch) (dC : Nat → ClassId) (dI : Nat → Nat → Nat) (cI : ClassId) (cZ : ClassId) (cG : ClassId) (cR : ClassId) (tA : Nat → Nat) (pr0 : Int → Int) (pr1 : Int → Int) (pr2 : Int → Int) (pr3 : Int → Int) (pr4 : Int → Int) (pr5 : Int → Int) (pr6 : Int → Int) (t1 : Int → Int) (t2 : Int → Int) (ex : Int → Int) (pt : Int → Int) (pn : Int → Int) (tc : Int → Int) (xa : Nat) (xi : Nat) (xn : Nat) (xs : Int) (xf : Int → Int) (sz : Nat) (i : Int) (hcap : xn < 1000) (hsx : 0 ≤ xs ∧ xs ≤ (xn : Int) ∧ xs ≤ 40) (hxf : ∀ j, 0 ≤ j → j < xs → 0 ≤ xf j ∧ xf j < 75) (hp1 : ∀ c, 0 ≤ c → c < 75 → 0 ≤ pr1 c ∧ pr1 c ≤ 9) (hi : 1 ≤ i ∧ i < xs) : Met l yC_isJoinedPicture wsC_isJoinedPicture ({ frames := 1, cells := 0, slots := 0, locals := 21 }) (va_Pc [.ref (tA 0), .ref xa, .int (iv i)] (jPre (dC, dI) (jT cI cZ cG cR) (wTR cI cZ cG cR tA pr0 pr1 pr2 pr3 pr4 pr5 pr6 t1 t2 ex pt pn tc xa xi xn xs xf) sz)) (va_Qi (fun (r0 : Int32) (u : Int) => r0 = iv u ∧ ((u = 0 ∨ u = 1) ∧ (u = 1 ↔ (pr1 (xf (i - 1)) = 5 ∧ pr1 (xf i) = 9 ∧ pbf pr1 xf (i - 1).toNat = 1)))) (fun u => jEnd (dC, dI) (jT cI cZ cG cR) (va_A (wTR cI cZ cG cR tA pr0 pr1 pr2 pr3 pr4 pr5 pr6 t1 t2 ex pt pn tc xa xi xn xs xf) sz) (wTR cI cZ cG cR tA pr0 pr1 pr2 pr3 pr4 pr5 pr6 t1 t2 ex pt pn tc xa xi xn xs xf)) (va_A (wTR cI cZ cG cR tA pr0 pr1 pr2 pr3 pr4 pr5 pr6 t1 t2 ex pt pn tc xa xi xn xs xf) sz)) 0 0 (va_A (wTR cI cZ cG cR tA pr0 pr1 pr2 pr3 pr4 pr5 pr6 t1 t2 ex pt pn tc xa xi xn xs xf) sz) := by
  refine jv_mz (cc := cC_isJoinedPicture) (maxL := 4) (by decide) rfl (Nat.le_of_ble_eq_true rfl) ?_
  intro p0 e0 s0 m0 a0 b0 t0 c0 R0 Q0 A0 ls gX gB hts hown hml hRf hRl hA hK hret hl hP hD hS
  have hown : s0.vm.findClass "TextPipeline$Clusters" = some m0.cls := hown
  have hw0 : ∀ w ∈ WS0, w.before a0 s0 = true := fun w h => hts w (List.mem_cons_of_mem _ h)
  have hl : lv_has ls 4 [(0, .ref (tA 0)), (1, .ref xa), (2, .int (iv i))] := hl
  have hRf : 1 ≤ R0.frames := hRf
  have hRl : 21 ≤ R0.locals := hRl
  have hx1 := hxf i (by omega) (by omega)
  have hx2 := hxf (i - 1) (by omega) (by omega)
  have hc1 := hp1 _ hx1.1 hx1.2
  have hc2 := hp1 _ hx2.1 hx2.2
  have cut29 : ∀ (ls : Array Slot) (H : Heap) (locs : List Loc), (¬ (pr1 (xf (i - 1)) = 5 ∧ pr1 (xf i) = 9)) → lv_has ls 4 [(0, .ref (tA 0)), (1, .ref xa), (2, .int (iv i))] → va_P (dC, dI) vwCl (wTR cI cZ cG cR tA pr0 pr1 pr2 pr3 pr4 pr5 pr6 t1 t2 ex pt pn tc xa xi xn xs xf) H → va_D A0 (wTR cI cZ cG cR tA pr0 pr1 pr2 pr3 pr4 pr5 pr6 t1 t2 ex pt pn tc xa xi xn xs xf) → va_S A0 s0.heap H locs → W p0 l e0 R0 s0 m0 a0 b0 t0 c0 H locs 0 0 Q0 (F0 m0 29 ls []) := by
    intro  ls H locs h29 hl hP hD hS
    refine lv_iconst (pc := 29) (v := iv 0) gX gB dC_isJoinedPicture_29 rfl ?_
    exact hret _ (0) dC_isJoinedPicture_30 (Or.inl rfl) ⟨rfl, by exact ⟨Or.inl rfl, ⟨fun z => by omega, fun z => absurd ⟨z.1, z.2.1⟩ h29⟩⟩⟩ hP hD hS
  refine lv_aload_n (pc := 0) gX gB dC_isJoinedPicture_0 rfl (lv_at hl 0 rfl) ?_
  refine lv_aload_n (pc := 1) gX gB dC_isJoinedPicture_1 rfl (lv_at hl 1 rfl) ?_
  refine lv_iload_n (pc := 2) gX gB dC_isJoinedPicture_2 rfl (lv_at hl 2 rfl) ?_
  refine jv_ri (pc := 3) (wr := [(tA 0, .inr (1, [.ref (tA 1), .ref (tA 9), .ref (tA 10), .ref (tA 11), .ref (tA 12), .ref (tA 13), .ref (tA 14)])), (tA 1, .inl (cG, 7, .inr (.inr (.inr (.inr (rfs [tA 2, tA 3, tA 4, tA 5, tA 6, tA 7, tA 8])))))), (tA 2, .inl (cI, 75, .inl (av pr0))), (tA 3, .inl (cI, 75, .inl (av pr1))), (tA 4, .inl (cI, 75, .inl (av pr2))), (tA 5, .inl (cI, 75, .inl (av pr3))), (tA 6, .inl (cI, 75, .inl (av pr4))), (tA 7, .inl (cI, 75, .inl (av pr5))), (tA 8, .inl (cI, 75, .inl (av pr6))), (tA 9, .inl (cI, 75, .inl (av t1))), (tA 10, .inl (cI, 75, .inl (av t2))), (tA 11, .inl (cZ, 75, .inl (av ex))), (tA 12, .inl (cI, 300, .inl (av pt))), (tA 13, .inl (cI, 75, .inl (av pn))), (tA 14, .inl (cI, 75, .inl (av tc)))]) (wn := fun u : Int => (wTR cI cZ cG cR tA pr0 pr1 pr2 pr3 pr4 pr5 pr6 t1 t2 ex pt pn tc xa xi xn xs xf)) (va_runV (rest := [.ref (tA 0)]) ⟨gX, gB, hml, hown, hw0⟩ (c_R_item l dC dI cI cZ cG cR xa xi xn xs xf _ i (by omega) (by omega)) (jcV hw0 kR_item q182 rfl rfl ⟨Nat.le_trans (Nat.le_of_ble_eq_true rfl) hRf, Nat.le_trans (Nat.le_of_ble_eq_true rfl) hRl⟩) (jv_preV (ci := 2) (q0 := 15) hK hP hD [15, 16] rfl (by decide) rfl rfl) rfl rfl hl.1 rfl (lv_room (Nat.le_of_ble_eq_true rfl)) dC_isJoinedPicture_3 ⟨Nat.zero_le _, Nat.zero_le _⟩) hP hD hS hA [15, 16] [0, 1, 2, 3, 4, 5, 6, 7, 8, 9, 10, 11, 12, 13, 14] [0, 1, 2, 3, 4, 5, 6, 7, 8, 9, 10, 11, 12, 13, 14, 15, 16] rfl rfl (by decide) (by decide) (by decide) (fun _ => rfl) (fun r0 u H locs hw3 hP hD hS => ?_)
  obtain ⟨r_3, hu⟩ : ∃ z, z = u := ⟨_, rfl⟩; subst hu
  obtain ⟨rfl, hw3⟩ := hw3
  refine jv_ri (pc := 6) (wr := [(xa, .inr (2, [.ref xi, .int (iv xs)])), (xi, .inl (cI, xn, .inl (av xf)))]) (wn := fun u : Int => (wTR cI cZ cG cR tA pr0 pr1 pr2 pr3 pr4 pr5 pr6 t1 t2 ex pt pn tc xa xi xn xs xf)) (va_runV (rest := []) ⟨gX, gB, hml, hown, hw0⟩ (c_T_clusterClass l dC dI cI cZ cG cR tA pr0 pr1 pr2 pr3 pr4 pr5 pr6 t1 t2 ex pt pn tc _ r_3 (by rw [hw3]; exact hx1)) (jcV hw0 kT_clusterClass q186 rfl rfl ⟨Nat.le_trans (Nat.le_of_ble_eq_true rfl) hRf, Nat.le_trans (Nat.le_of_ble_eq_true rfl) hRl⟩) (jv_preV (ci := 1) (q0 := 0) hK hP hD [0, 1, 2, 3, 4, 5, 6, 7, 8, 9, 10, 11, 12, 13, 14] rfl (by decide) rfl rfl) rfl rfl hl.1 rfl (lv_room (Nat.le_of_ble_eq_true rfl)) dC_isJoinedPicture_6 ⟨Nat.zero_le _, Nat.zero_le _⟩) hP hD hS hA [0, 1, 2, 3, 4, 5, 6, 7, 8, 9, 10, 11, 12, 13, 14] [15, 16] [2, 3, 4, 5, 6, 7, 8, 9, 10, 11, 12, 13, 14, 15, 16, 0, 1] rfl rfl (by decide) (by decide) (by decide) (fun _ => rfl) (fun r0 u H locs hw6 hP hD hS => ?_)
  obtain ⟨r_6, hu⟩ : ∃ z, z = u := ⟨_, rfl⟩; subst hu
  obtain ⟨rfl, hw6⟩ := hw6
  have hr6 : r_6 = pr1 (xf i) := by rw [hw6, hw3]
  refine lv_bipush (pc := 9) (v := iv 9) gX gB dC_isJoinedPicture_9 (by decide) ?_
  refine jv_icmp_ne (pc := 11) (tgt := 29) gX gB dC_isJoinedPicture_11 (by decide) (by omega) (by decide) (fun h1 => ?_) (fun h1 => ?_)
  · skip
    exact cut29  _ _ _ (by exact fun z => by omega) hl hP hD hS
  refine lv_aload_n (pc := 14) gX gB dC_isJoinedPicture_14 rfl (lv_at hl 0 rfl) ?_
  refine lv_aload_n (pc := 15) gX gB dC_isJoinedPicture_15 rfl (lv_at hl 1 rfl) ?_
  refine lv_iload_n (pc := 16) gX gB dC_isJoinedPicture_16 rfl (lv_at hl 2 rfl) ?_
  refine lv_iconst (pc := 17) (v := iv 1) gX gB dC_isJoinedPicture_17 rfl ?_
  refine jv_isub (pc := 18) (x := i) (y := 1) gX gB dC_isJoinedPicture_18 ?_
  refine jv_ri (pc := 19) (wr := [(tA 0, .inr (1, [.ref (tA 1), .ref (tA 9), .ref (tA 10), .ref (tA 11), .ref (tA 12), .ref (tA 13), .ref (tA 14)])), (tA 1, .inl (cG, 7, .inr (.inr (.inr (.inr (rfs [tA 2, tA 3, tA 4, tA 5, tA 6, tA 7, tA 8])))))), (tA 2, .inl (cI, 75, .inl (av pr0))), (tA 3, .inl (cI, 75, .inl (av pr1))), (tA 4, .inl (cI, 75, .inl (av pr2))), (tA 5, .inl (cI, 75, .inl (av pr3))), (tA 6, .inl (cI, 75, .inl (av pr4))), (tA 7, .inl (cI, 75, .inl (av pr5))), (tA 8, .inl (cI, 75, .inl (av pr6))), (tA 9, .inl (cI, 75, .inl (av t1))), (tA 10, .inl (cI, 75, .inl (av t2))), (tA 11, .inl (cZ, 75, .inl (av ex))), (tA 12, .inl (cI, 300, .inl (av pt))), (tA 13, .inl (cI, 75, .inl (av pn))), (tA 14, .inl (cI, 75, .inl (av tc)))]) (wn := fun u : Int => (wTR cI cZ cG cR tA pr0 pr1 pr2 pr3 pr4 pr5 pr6 t1 t2 ex pt pn tc xa xi xn xs xf)) (va_runV (rest := [.ref (tA 0)]) ⟨gX, gB, hml, hown, hw0⟩ (c_R_item l dC dI cI cZ cG cR xa xi xn xs xf _ (i - 1) (by omega) (by omega)) (jcV hw0 kR_item q182 rfl rfl ⟨Nat.le_trans (Nat.le_of_ble_eq_true rfl) hRf, Nat.le_trans (Nat.le_of_ble_eq_true rfl) hRl⟩) (jv_preV (ci := 2) (q0 := 15) hK hP hD [15, 16] rfl (by decide) rfl rfl) rfl rfl hl.1 rfl (lv_room (Nat.le_of_ble_eq_true rfl)) dC_isJoinedPicture_19 ⟨Nat.zero_le _, Nat.zero_le _⟩) hP hD hS hA [15, 16] [0, 1, 2, 3, 4, 5, 6, 7, 8, 9, 10, 11, 12, 13, 14] [0, 1, 2, 3, 4, 5, 6, 7, 8, 9, 10, 11, 12, 13, 14, 15, 16] rfl rfl (by decide) (by decide) (by decide) (fun _ => rfl) (fun r0 u H locs hw19 hP hD hS => ?_)
  obtain ⟨r_19, hu⟩ : ∃ z, z = u := ⟨_, rfl⟩; subst hu
  obtain ⟨rfl, hw19⟩ := hw19
  refine jv_ri (pc := 22) (wr := [(xa, .inr (2, [.ref xi, .int (iv xs)])), (xi, .inl (cI, xn, .inl (av xf)))]) (wn := fun u : Int => (wTR cI cZ cG cR tA pr0 pr1 pr2 pr3 pr4 pr5 pr6 t1 t2 ex pt pn tc xa xi xn xs xf)) (va_runV (rest := []) ⟨gX, gB, hml, hown, hw0⟩ (c_T_clusterClass l dC dI cI cZ cG cR tA pr0 pr1 pr2 pr3 pr4 pr5 pr6 t1 t2 ex pt pn tc _ r_19 (by rw [hw19]; exact hx2)) (jcV hw0 kT_clusterClass q186 rfl rfl ⟨Nat.le_trans (Nat.le_of_ble_eq_true rfl) hRf, Nat.le_trans (Nat.le_of_ble_eq_true rfl) hRl⟩) (jv_preV (ci := 1) (q0 := 0) hK hP hD [0, 1, 2, 3, 4, 5, 6, 7, 8, 9, 10, 11, 12, 13, 14] rfl (by decide) rfl rfl) rfl rfl hl.1 rfl (lv_room (Nat.le_of_ble_eq_true rfl)) dC_isJoinedPicture_22 ⟨Nat.zero_le _, Nat.zero_le _⟩) hP hD hS hA [0, 1, 2, 3, 4, 5, 6, 7, 8, 9, 10, 11, 12, 13, 14] [15, 16] [2, 3, 4, 5, 6, 7, 8, 9, 10, 11, 12, 13, 14, 15, 16, 0, 1] rfl rfl (by decide) (by decide) (by decide) (fun _ => rfl) (fun r0 u H locs hw22 hP hD hS => ?_)
  obtain ⟨r_22, hu⟩ : ∃ z, z = u := ⟨_, rfl⟩; subst hu
  obtain ⟨rfl, hw22⟩ := hw22
  have hr22 : r_22 = pr1 (xf (i - 1)) := by rw [hw22, hw19]
  refine lv_iconst (pc := 25) (v := iv 5) gX gB dC_isJoinedPicture_25 rfl ?_
  refine jv_icmp_eq (pc := 26) (tgt := 31) gX gB dC_isJoinedPicture_26 (by decide) (by omega) (by decide) (fun h2 => ?_) (fun h2 => ?_)
  · skip
    have h31 : pr1 (xf (i - 1)) = 5 ∧ pr1 (xf i) = 9 := by constructor; (rw [← hw19, ← hw22]; assumption); (rw [← hw3, ← hw6]; assumption)
    refine lv_iload_n (pc := 31) gX gB dC_isJoinedPicture_31 rfl (lv_at hl 2 rfl) ?_
    refine lv_iconst (pc := 32) (v := iv 2) gX gB dC_isJoinedPicture_32 rfl ?_
    refine jv_isub (pc := 33) (x := i) (y := 2) gX gB dC_isJoinedPicture_33 ?_
    refine lv_istore_n (pc := 34) (lv' := [(3, .int (iv (i - 2))), (0, .ref (tA 0)), (1, .ref xa), (2, .int (iv i))]) gX gB dC_isJoinedPicture_34 rfl hl (by decide) rfl (fun ls hl => ?_)
    have cut58 : ∀ (s : Int) (ls : Array Slot) (H : Heap) (locs : List Loc), (-1 ≤ s ∧ s ≤ i - 2) → (pbf pr1 xf (s + 1).toNat = pbf pr1 xf (i - 1).toNat) → (0 ≤ s → pr1 (xf s) ≠ 4) → lv_has ls 4 [(0, .ref (tA 0)), (1, .ref xa), (2, .int (iv i)), (3, .int (iv s))] → va_P (dC, dI) vwCl (wTR cI cZ cG cR tA pr0 pr1 pr2 pr3 pr4 pr5 pr6 t1 t2 ex pt pn tc xa xi xn xs xf) H → va_D A0 (wTR cI cZ cG cR tA pr0 pr1 pr2 pr3 pr4 pr5 pr6 t1 t2 ex pt pn tc xa xi xn xs xf) → va_S A0 s0.heap H locs → W p0 l e0 R0 s0 m0 a0 b0 t0 c0 H locs 0 0 Q0 (F0 m0 58 ls []) := by
      intro s ls H locs hs hq hne hl hP hD hS
      have cut80 : ∀ (ls : Array Slot) (H : Heap) (locs : List Loc), (pbf pr1 xf (i - 1).toNat = 0) → lv_has ls 4 [(0, .ref (tA 0)), (1, .ref xa), (2, .int (iv i)), (3, .int (iv s))] → va_P (dC, dI) vwCl (wTR cI cZ cG cR tA pr0 pr1 pr2 pr3 pr4 pr5 pr6 t1 t2 ex pt pn tc xa xi xn xs xf) H → va_D A0 (wTR cI cZ cG cR tA pr0 pr1 pr2 pr3 pr4 pr5 pr6 t1 t2 ex pt pn tc xa xi xn xs xf) → va_S A0 s0.heap H locs → W p0 l e0 R0 s0 m0 a0 b0 t0 c0 H locs 0 0 Q0 (F0 m0 80 ls []) := by
        intro  ls H locs h80 hl hP hD hS
        refine lv_iconst (pc := 80) (v := iv 0) gX gB dC_isJoinedPicture_80 rfl ?_
        exact hret _ (0) dC_isJoinedPicture_81 (Or.inl rfl) ⟨rfl, by first | exact ⟨Or.inl rfl, ⟨fun z => by omega, fun z => by omega⟩⟩ | (exact ⟨Or.inr rfl, ⟨fun _ => ⟨h31.1, h31.2, by rw [hps, if_pos (by omega)]⟩, fun _ => rfl⟩⟩)⟩ hP hD hS
      refine lv_iload_n (pc := 58) gX gB dC_isJoinedPicture_58 rfl (lv_at hl 3 rfl) ?_
      refine jv_if_lt (pc := 59) (tgt := 80) gX gB dC_isJoinedPicture_59 (by decide) (by omega) (fun h3 => ?_) (fun h3 => ?_)
      · skip
        exact cut80  _ _ _ (by rw [← hq, show s = -1 by omega]; rfl) hl hP hD hS
      have hxs := hxf s (by omega) (by omega)
      have hcs := hp1 _ hxs.1 hxs.2
      have hps := pbf_s (cz := pr1) (tx := xf) (s := s) (by omega)
      rw [if_neg (hne (by omega)), hq] at hps
      refine lv_aload_n (pc := 62) gX gB dC_isJoinedPicture_62 rfl (lv_at hl 0 rfl) ?_
      refine lv_aload_n (pc := 63) gX gB dC_isJoinedPicture_63 rfl (lv_at hl 1 rfl) ?_
      refine lv_iload_n (pc := 64) gX gB dC_isJoinedPicture_64 rfl (lv_at hl 3 rfl) ?_
      refine jv_ri (pc := 65) (wr := [(tA 0, .inr (1, [.ref (tA 1), .ref (tA 9), .ref (tA 10), .ref (tA 11), .ref (tA 12), .ref (tA 13), .ref (tA 14)])), (tA 1, .inl (cG, 7, .inr (.inr (.inr (.inr (rfs [tA 2, tA 3, tA 4, tA 5, tA 6, tA 7, tA 8])))))), (tA 2, .inl (cI, 75, .inl (av pr0))), (tA 3, .inl (cI, 75, .inl (av pr1))), (tA 4, .inl (cI, 75, .inl (av pr2))), (tA 5, .inl (cI, 75, .inl (av pr3))), (tA 6, .inl (cI, 75, .inl (av pr4))), (tA 7, .inl (cI, 75, .inl (av pr5))), (tA 8, .inl (cI, 75, .inl (av pr6))), (tA 9, .inl (cI, 75, .inl (av t1))), (tA 10, .inl (cI, 75, .inl (av t2))), (tA 11, .inl (cZ, 75, .inl (av ex))), (tA 12, .inl (cI, 300, .inl (av pt))), (tA 13, .inl (cI, 75, .inl (av pn))), (tA 14, .inl (cI, 75, .inl (av tc)))]) (wn := fun u : Int => (wTR cI cZ cG cR tA pr0 pr1 pr2 pr3 pr4 pr5 pr6 t1 t2 ex pt pn tc xa xi xn xs xf)) (va_runV (rest := [.ref (tA 0)]) ⟨gX, gB, hml, hown, hw0⟩ (c_R_item l dC dI cI cZ cG cR xa xi xn xs xf _ s (by omega) (by omega)) (jcV hw0 kR_item q182 rfl rfl ⟨Nat.le_trans (Nat.le_of_ble_eq_true rfl) hRf, Nat.le_trans (Nat.le_of_ble_eq_true rfl) hRl⟩) (jv_preV (ci := 2) (q0 := 15) hK hP hD [15, 16] rfl (by decide) rfl rfl) rfl rfl hl.1 rfl (lv_room (Nat.le_of_ble_eq_true rfl)) dC_isJoinedPicture_65 ⟨Nat.zero_le _, Nat.zero_le _⟩) hP hD hS hA [15, 16] [0, 1, 2, 3, 4, 5, 6, 7, 8, 9, 10, 11, 12, 13, 14] [0, 1, 2, 3, 4, 5, 6, 7, 8, 9, 10, 11, 12, 13, 14, 15, 16] rfl rfl (by decide) (by decide) (by decide) (fun _ => rfl) (fun r0 u H locs hw65 hP hD hS => ?_)
      obtain ⟨r_65, hu⟩ : ∃ z, z = u := ⟨_, rfl⟩; subst hu
      obtain ⟨rfl, hw65⟩ := hw65
      refine jv_ri (pc := 68) (wr := [(xa, .inr (2, [.ref xi, .int (iv xs)])), (xi, .inl (cI, xn, .inl (av xf)))]) (wn := fun u : Int => (wTR cI cZ cG cR tA pr0 pr1 pr2 pr3 pr4 pr5 pr6 t1 t2 ex pt pn tc xa xi xn xs xf)) (va_runV (rest := []) ⟨gX, gB, hml, hown, hw0⟩ (c_T_clusterClass l dC dI cI cZ cG cR tA pr0 pr1 pr2 pr3 pr4 pr5 pr6 t1 t2 ex pt pn tc _ r_65 (by rw [hw65]; exact hxs)) (jcV hw0 kT_clusterClass q186 rfl rfl ⟨Nat.le_trans (Nat.le_of_ble_eq_true rfl) hRf, Nat.le_trans (Nat.le_of_ble_eq_true rfl) hRl⟩) (jv_preV (ci := 1) (q0 := 0) hK hP hD [0, 1, 2, 3, 4, 5, 6, 7, 8, 9, 10, 11, 12, 13, 14] rfl (by decide) rfl rfl) rfl rfl hl.1 rfl (lv_room (Nat.le_of_ble_eq_true rfl)) dC_isJoinedPicture_68 ⟨Nat.zero_le _, Nat.zero_le _⟩) hP hD hS hA [0, 1, 2, 3, 4, 5, 6, 7, 8, 9, 10, 11, 12, 13, 14] [15, 16] [2, 3, 4, 5, 6, 7, 8, 9, 10, 11, 12, 13, 14, 15, 16, 0, 1] rfl rfl (by decide) (by decide) (by decide) (fun _ => rfl) (fun r0 u H locs hw68 hP hD hS => ?_)
      obtain ⟨r_68, hu⟩ : ∃ z, z = u := ⟨_, rfl⟩; subst hu
      obtain ⟨rfl, hw68⟩ := hw68
      have hr68 : r_68 = pr1 (xf s) := by rw [hw68, hw65]
      refine lv_bipush (pc := 71) (v := iv 9) gX gB dC_isJoinedPicture_71 (by decide) ?_
      refine jv_icmp_ne (pc := 73) (tgt := 80) gX gB dC_isJoinedPicture_73 (by decide) (by omega) (by decide) (fun h4 => ?_) (fun h4 => ?_)
      · skip
        exact cut80  _ _ _ (by rw [hps, if_neg (by omega)]) hl hP hD hS
      refine lv_iconst (pc := 76) (v := iv 1) gX gB dC_isJoinedPicture_76 rfl ?_
      refine lv_goto (pc := 77) (tgt := 81) gX gB dC_isJoinedPicture_77 (by decide) ?_
      exact hret _ (1) dC_isJoinedPicture_81 (Or.inr rfl) ⟨rfl, by first | exact ⟨Or.inl rfl, ⟨fun z => by omega, fun z => by omega⟩⟩ | (exact ⟨Or.inr rfl, ⟨fun _ => ⟨h31.1, h31.2, by rw [hps, if_pos (by omega)]⟩, fun _ => rfl⟩⟩)⟩ hP hD hS
    have cut35 : ∀ (n0 : Nat) (s : Int) (ls : Array Slot) (H : Heap) (locs : List Loc), (-1 ≤ s ∧ s ≤ i - 2) → (pbf pr1 xf (s + 1).toNat = pbf pr1 xf (i - 1).toNat) → ((s + 1 : Int).toNat < n0) → lv_has ls 4 [(0, .ref (tA 0)), (1, .ref xa), (2, .int (iv i)), (3, .int (iv s))] → va_P (dC, dI) vwCl (wTR cI cZ cG cR tA pr0 pr1 pr2 pr3 pr4 pr5 pr6 t1 t2 ex pt pn tc xa xi xn xs xf) H → va_D A0 (wTR cI cZ cG cR tA pr0 pr1 pr2 pr3 pr4 pr5 pr6 t1 t2 ex pt pn tc xa xi xn xs xf) → va_S A0 s0.heap H locs → W p0 l e0 R0 s0 m0 a0 b0 t0 c0 H locs 0 0 Q0 (F0 m0 35 ls []) := by
      intro n0
      induction n0 with
      | zero => intro s ls H locs hs hq hm hl hP hD hS; exact absurd hm (Nat.not_lt_zero _)
      | succ n0 ih35 =>
        intro s ls H locs hs hq hm35 hl hP hD hS
        refine lv_iload_n (pc := 35) gX gB dC_isJoinedPicture_35 rfl (lv_at hl 3 rfl) ?_
        refine jv_if_lt (pc := 36) (tgt := 58) gX gB dC_isJoinedPicture_36 (by decide) (by omega) (fun h5 => ?_) (fun h5 => ?_)
        · skip
          exact cut58 s _ _ _ (by omega) (by exact hq) (by intro z; omega) hl hP hD hS
        have hxs := hxf s (by omega) (by omega)
        have hcs := hp1 _ hxs.1 hxs.2
        have hps := pbf_s (cz := pr1) (tx := xf) (s := s) (by omega)
        refine lv_aload_n (pc := 39) gX gB dC_isJoinedPicture_39 rfl (lv_at hl 0 rfl) ?_
        refine lv_aload_n (pc := 40) gX gB dC_isJoinedPicture_40 rfl (lv_at hl 1 rfl) ?_
        refine lv_iload_n (pc := 41) gX gB dC_isJoinedPicture_41 rfl (lv_at hl 3 rfl) ?_
        refine jv_ri (pc := 42) (wr := [(tA 0, .inr (1, [.ref (tA 1), .ref (tA 9), .ref (tA 10), .ref (tA 11), .ref (tA 12), .ref (tA 13), .ref (tA 14)])), (tA 1, .inl (cG, 7, .inr (.inr (.inr (.inr (rfs [tA 2, tA 3, tA 4, tA 5, tA 6, tA 7, tA 8])))))), (tA 2, .inl (cI, 75, .inl (av pr0))), (tA 3, .inl (cI, 75, .inl (av pr1))), (tA 4, .inl (cI, 75, .inl (av pr2))), (tA 5, .inl (cI, 75, .inl (av pr3))), (tA 6, .inl (cI, 75, .inl (av pr4))), (tA 7, .inl (cI, 75, .inl (av pr5))), (tA 8, .inl (cI, 75, .inl (av pr6))), (tA 9, .inl (cI, 75, .inl (av t1))), (tA 10, .inl (cI, 75, .inl (av t2))), (tA 11, .inl (cZ, 75, .inl (av ex))), (tA 12, .inl (cI, 300, .inl (av pt))), (tA 13, .inl (cI, 75, .inl (av pn))), (tA 14, .inl (cI, 75, .inl (av tc)))]) (wn := fun u : Int => (wTR cI cZ cG cR tA pr0 pr1 pr2 pr3 pr4 pr5 pr6 t1 t2 ex pt pn tc xa xi xn xs xf)) (va_runV (rest := [.ref (tA 0)]) ⟨gX, gB, hml, hown, hw0⟩ (c_R_item l dC dI cI cZ cG cR xa xi xn xs xf _ s (by omega) (by omega)) (jcV hw0 kR_item q182 rfl rfl ⟨Nat.le_trans (Nat.le_of_ble_eq_true rfl) hRf, Nat.le_trans (Nat.le_of_ble_eq_true rfl) hRl⟩) (jv_preV (ci := 2) (q0 := 15) hK hP hD [15, 16] rfl (by decide) rfl rfl) rfl rfl hl.1 rfl (lv_room (Nat.le_of_ble_eq_true rfl)) dC_isJoinedPicture_42 ⟨Nat.zero_le _, Nat.zero_le _⟩) hP hD hS hA [15, 16] [0, 1, 2, 3, 4, 5, 6, 7, 8, 9, 10, 11, 12, 13, 14] [0, 1, 2, 3, 4, 5, 6, 7, 8, 9, 10, 11, 12, 13, 14, 15, 16] rfl rfl (by decide) (by decide) (by decide) (fun _ => rfl) (fun r0 u H locs hw42 hP hD hS => ?_)
        obtain ⟨r_42, hu⟩ : ∃ z, z = u := ⟨_, rfl⟩; subst hu
        obtain ⟨rfl, hw42⟩ := hw42
        refine jv_ri (pc := 45) (wr := [(xa, .inr (2, [.ref xi, .int (iv xs)])), (xi, .inl (cI, xn, .inl (av xf)))]) (wn := fun u : Int => (wTR cI cZ cG cR tA pr0 pr1 pr2 pr3 pr4 pr5 pr6 t1 t2 ex pt pn tc xa xi xn xs xf)) (va_runV (rest := []) ⟨gX, gB, hml, hown, hw0⟩ (c_T_clusterClass l dC dI cI cZ cG cR tA pr0 pr1 pr2 pr3 pr4 pr5 pr6 t1 t2 ex pt pn tc _ r_42 (by rw [hw42]; exact hxs)) (jcV hw0 kT_clusterClass q186 rfl rfl ⟨Nat.le_trans (Nat.le_of_ble_eq_true rfl) hRf, Nat.le_trans (Nat.le_of_ble_eq_true rfl) hRl⟩) (jv_preV (ci := 1) (q0 := 0) hK hP hD [0, 1, 2, 3, 4, 5, 6, 7, 8, 9, 10, 11, 12, 13, 14] rfl (by decide) rfl rfl) rfl rfl hl.1 rfl (lv_room (Nat.le_of_ble_eq_true rfl)) dC_isJoinedPicture_45 ⟨Nat.zero_le _, Nat.zero_le _⟩) hP hD hS hA [0, 1, 2, 3, 4, 5, 6, 7, 8, 9, 10, 11, 12, 13, 14] [15, 16] [2, 3, 4, 5, 6, 7, 8, 9, 10, 11, 12, 13, 14, 15, 16, 0, 1] rfl rfl (by decide) (by decide) (by decide) (fun _ => rfl) (fun r0 u H locs hw45 hP hD hS => ?_)
        obtain ⟨r_45, hu⟩ : ∃ z, z = u := ⟨_, rfl⟩; subst hu
        obtain ⟨rfl, hw45⟩ := hw45
        have hr45 : r_45 = pr1 (xf s) := by rw [hw45, hw42]
        refine lv_iconst (pc := 48) (v := iv 4) gX gB dC_isJoinedPicture_48 rfl ?_
        refine jv_icmp_ne (pc := 49) (tgt := 58) gX gB dC_isJoinedPicture_49 (by decide) (by omega) (by decide) (fun h6 => ?_) (fun h6 => ?_)
        · skip
          exact cut58 s _ _ _ (by omega) (by exact hq) (by intro z; omega) hl hP hD hS
        refine jv_idec (pc := 52) (k := 3) (x := s) (n := (-1)) (d := 1) (lv' := [(3, .int (iv (s - 1))), (0, .ref (tA 0)), (1, .ref xa), (2, .int (iv i))]) gX gB dC_isJoinedPicture_52 (by decide) hl rfl (by decide) rfl (fun ls hl => ?_)
        refine lv_goto (pc := 55) (tgt := 35) gX gB dC_isJoinedPicture_55 (by decide) ?_
        exact ih35 (s - 1) _ _ _ (by omega) (by rw [← hq, hps, if_pos (by omega), show s - 1 + 1 = s by omega]) (by omega) (lv_sub hl [1, 2, 3, 0] rfl) hP hD hS
    exact cut35 ((((i - 2) + 1 : Int).toNat) + 1) (i - 2) _ _ _ (by omega) (by rw [show i - 2 + 1 = i - 1 by omega]) (Nat.lt_succ_self _) (lv_sub hl [1, 2, 3, 0] rfl) hP hD hS
  exact cut29  _ _ _ (by exact fun z => by omega) hl hP hD hS
set_option maxRecDepth 100000 in
set_option maxHeartbeats 1000000 in
theorem c_C_isSecondRegion (l : Launch) (dC : Nat → ClassId) (dI : Nat → Nat → Nat) (cI : ClassId) (cZ : ClassId) (cG : ClassId) (cR : ClassId) (tA : Nat → Nat) (pr0 : Int → Int) (pr1 : Int → Int) (pr2 : Int → Int) (pr3 : Int → Int) (pr4 : Int → Int) (pr5 : Int → Int) (pr6 : Int → Int) (t1 : Int → Int) (t2 : Int → Int) (ex : Int → Int) (pt : Int → Int) (pn : Int → Int) (tc : Int → Int) (xa : Nat) (xi : Nat) (xn : Nat) (xs : Int) (xf : Int → Int) (sz : Nat) (i : Int) (hcap : xn < 1000) (hsx : 0 ≤ xs ∧ xs ≤ (xn : Int) ∧ xs ≤ 40) (hxf : ∀ j, 0 ≤ j → j < xs → 0 ≤ xf j ∧ xf j < 75) (hp1 : ∀ c, 0 ≤ c → c < 75 → 0 ≤ pr1 c ∧ pr1 c ≤ 9) (hi : 1 ≤ i ∧ i < xs) : Met l yC_isSecondRegion wsC_isSecondRegion ({ frames := 1, cells := 0, slots := 0, locals := 21 }) (va_Pc [.ref (tA 0), .ref xa, .int (iv i)] (jPre (dC, dI) (jT cI cZ cG cR) (wTR cI cZ cG cR tA pr0 pr1 pr2 pr3 pr4 pr5 pr6 t1 t2 ex pt pn tc xa xi xn xs xf) sz)) (va_Qi (fun (r0 : Int32) (u : Int) => r0 = iv u ∧ ((u = 0 ∨ u = 1) ∧ (u = 1 ↔ (pr1 (xf i) = 6 ∧ rcf pr1 xf i.toNat % 2 = 1)))) (fun u => jEnd (dC, dI) (jT cI cZ cG cR) (va_A (wTR cI cZ cG cR tA pr0 pr1 pr2 pr3 pr4 pr5 pr6 t1 t2 ex pt pn tc xa xi xn xs xf) sz) (wTR cI cZ cG cR tA pr0 pr1 pr2 pr3 pr4 pr5 pr6 t1 t2 ex pt pn tc xa xi xn xs xf)) (va_A (wTR cI cZ cG cR tA pr0 pr1 pr2 pr3 pr4 pr5 pr6 t1 t2 ex pt pn tc xa xi xn xs xf) sz)) 0 0 (va_A (wTR cI cZ cG cR tA pr0 pr1 pr2 pr3 pr4 pr5 pr6 t1 t2 ex pt pn tc xa xi xn xs xf) sz) := by
  refine jv_mz (cc := cC_isSecondRegion) (maxL := 4) (by decide) rfl (Nat.le_of_ble_eq_true rfl) ?_
  intro p0 e0 s0 m0 a0 b0 t0 c0 R0 Q0 A0 ls gX gB hts hown hml hRf hRl hA hK hret hl hP hD hS
  have hown : s0.vm.findClass "TextPipeline$Clusters" = some m0.cls := hown
  have hw0 : ∀ w ∈ WS0, w.before a0 s0 = true := fun w h => hts w (List.mem_cons_of_mem _ h)
  have hl : lv_has ls 4 [(0, .ref (tA 0)), (1, .ref xa), (2, .int (iv i))] := hl
  have hRf : 1 ≤ R0.frames := hRf
  have hRl : 21 ≤ R0.locals := hRl
  have hx1 := hxf i (by omega) (by omega)
  have hc1 := hp1 _ hx1.1 hx1.2
  refine lv_aload_n (pc := 0) gX gB dC_isSecondRegion_0 rfl (lv_at hl 0 rfl) ?_
  refine lv_aload_n (pc := 1) gX gB dC_isSecondRegion_1 rfl (lv_at hl 1 rfl) ?_
  refine lv_iload_n (pc := 2) gX gB dC_isSecondRegion_2 rfl (lv_at hl 2 rfl) ?_
  refine jv_ri (pc := 3) (wr := [(tA 0, .inr (1, [.ref (tA 1), .ref (tA 9), .ref (tA 10), .ref (tA 11), .ref (tA 12), .ref (tA 13), .ref (tA 14)])), (tA 1, .inl (cG, 7, .inr (.inr (.inr (.inr (rfs [tA 2, tA 3, tA 4, tA 5, tA 6, tA 7, tA 8])))))), (tA 2, .inl (cI, 75, .inl (av pr0))), (tA 3, .inl (cI, 75, .inl (av pr1))), (tA 4, .inl (cI, 75, .inl (av pr2))), (tA 5, .inl (cI, 75, .inl (av pr3))), (tA 6, .inl (cI, 75, .inl (av pr4))), (tA 7, .inl (cI, 75, .inl (av pr5))), (tA 8, .inl (cI, 75, .inl (av pr6))), (tA 9, .inl (cI, 75, .inl (av t1))), (tA 10, .inl (cI, 75, .inl (av t2))), (tA 11, .inl (cZ, 75, .inl (av ex))), (tA 12, .inl (cI, 300, .inl (av pt))), (tA 13, .inl (cI, 75, .inl (av pn))), (tA 14, .inl (cI, 75, .inl (av tc)))]) (wn := fun u : Int => (wTR cI cZ cG cR tA pr0 pr1 pr2 pr3 pr4 pr5 pr6 t1 t2 ex pt pn tc xa xi xn xs xf)) (va_runV (rest := [.ref (tA 0)]) ⟨gX, gB, hml, hown, hw0⟩ (c_R_item l dC dI cI cZ cG cR xa xi xn xs xf _ i (by omega) (by omega)) (jcV hw0 kR_item q182 rfl rfl ⟨Nat.le_trans (Nat.le_of_ble_eq_true rfl) hRf, Nat.le_trans (Nat.le_of_ble_eq_true rfl) hRl⟩) (jv_preV (ci := 2) (q0 := 15) hK hP hD [15, 16] rfl (by decide) rfl rfl) rfl rfl hl.1 rfl (lv_room (Nat.le_of_ble_eq_true rfl)) dC_isSecondRegion_3 ⟨Nat.zero_le _, Nat.zero_le _⟩) hP hD hS hA [15, 16] [0, 1, 2, 3, 4, 5, 6, 7, 8, 9, 10, 11, 12, 13, 14] [0, 1, 2, 3, 4, 5, 6, 7, 8, 9, 10, 11, 12, 13, 14, 15, 16] rfl rfl (by decide) (by decide) (by decide) (fun _ => rfl) (fun r0 u H locs hw3 hP hD hS => ?_)
  obtain ⟨r_3, hu⟩ : ∃ z, z = u := ⟨_, rfl⟩; subst hu
  obtain ⟨rfl, hw3⟩ := hw3
  refine jv_ri (pc := 6) (wr := [(xa, .inr (2, [.ref xi, .int (iv xs)])), (xi, .inl (cI, xn, .inl (av xf)))]) (wn := fun u : Int => (wTR cI cZ cG cR tA pr0 pr1 pr2 pr3 pr4 pr5 pr6 t1 t2 ex pt pn tc xa xi xn xs xf)) (va_runV (rest := []) ⟨gX, gB, hml, hown, hw0⟩ (c_T_clusterClass l dC dI cI cZ cG cR tA pr0 pr1 pr2 pr3 pr4 pr5 pr6 t1 t2 ex pt pn tc _ r_3 (by rw [hw3]; exact hx1)) (jcV hw0 kT_clusterClass q186 rfl rfl ⟨Nat.le_trans (Nat.le_of_ble_eq_true rfl) hRf, Nat.le_trans (Nat.le_of_ble_eq_true rfl) hRl⟩) (jv_preV (ci := 1) (q0 := 0) hK hP hD [0, 1, 2, 3, 4, 5, 6, 7, 8, 9, 10, 11, 12, 13, 14] rfl (by decide) rfl rfl) rfl rfl hl.1 rfl (lv_room (Nat.le_of_ble_eq_true rfl)) dC_isSecondRegion_6 ⟨Nat.zero_le _, Nat.zero_le _⟩) hP hD hS hA [0, 1, 2, 3, 4, 5, 6, 7, 8, 9, 10, 11, 12, 13, 14] [15, 16] [2, 3, 4, 5, 6, 7, 8, 9, 10, 11, 12, 13, 14, 15, 16, 0, 1] rfl rfl (by decide) (by decide) (by decide) (fun _ => rfl) (fun r0 u H locs hw6 hP hD hS => ?_)
  obtain ⟨r_6, hu⟩ : ∃ z, z = u := ⟨_, rfl⟩; subst hu
  obtain ⟨rfl, hw6⟩ := hw6
  have hr6 : r_6 = pr1 (xf i) := by rw [hw6, hw3]
  refine lv_bipush (pc := 9) (v := iv 6) gX gB dC_isSecondRegion_9 (by decide) ?_
  refine jv_icmp_eq (pc := 11) (tgt := 16) gX gB dC_isSecondRegion_11 (by decide) (by omega) (by decide) (fun h1 => ?_) (fun h1 => ?_)
  · skip
    refine lv_iload_n (pc := 16) gX gB dC_isSecondRegion_16 rfl (lv_at hl 2 rfl) ?_
    refine lv_iconst (pc := 17) (v := iv 1) gX gB dC_isSecondRegion_17 rfl ?_
    refine jv_isub (pc := 18) (x := i) (y := 1) gX gB dC_isSecondRegion_18 ?_
    refine lv_istore_n (pc := 19) (lv' := [(3, .int (iv (i - 1))), (0, .ref (tA 0)), (1, .ref xa), (2, .int (iv i))]) gX gB dC_isSecondRegion_19 rfl hl (by decide) rfl (fun ls hl => ?_)
    have cut44 : ∀ (s : Int) (ls : Array Slot) (H : Heap) (locs : List Loc), (-1 ≤ s ∧ s ≤ i - 1) → (rcf pr1 xf i.toNat = i - 1 - s) → lv_has ls 4 [(0, .ref (tA 0)), (1, .ref xa), (2, .int (iv i)), (3, .int (iv s))] → va_P (dC, dI) vwCl (wTR cI cZ cG cR tA pr0 pr1 pr2 pr3 pr4 pr5 pr6 t1 t2 ex pt pn tc xa xi xn xs xf) H → va_D A0 (wTR cI cZ cG cR tA pr0 pr1 pr2 pr3 pr4 pr5 pr6 t1 t2 ex pt pn tc xa xi xn xs xf) → va_S A0 s0.heap H locs → W p0 l e0 R0 s0 m0 a0 b0 t0 c0 H locs 0 0 Q0 (F0 m0 44 ls []) := by
      intro s ls H locs hs hq hl hP hD hS
      refine lv_iload_n (pc := 44) gX gB dC_isSecondRegion_44 rfl (lv_at hl 2 rfl) ?_
      refine lv_iconst (pc := 45) (v := iv 1) gX gB dC_isSecondRegion_45 rfl ?_
      refine jv_isub (pc := 46) (x := i) (y := 1) gX gB dC_isSecondRegion_46 ?_
      refine lv_iload_n (pc := 47) gX gB dC_isSecondRegion_47 rfl (lv_at hl 3 rfl) ?_
      refine jv_isub (pc := 48) (x := i - 1) (y := s) gX gB dC_isSecondRegion_48 ?_
      refine lv_iconst (pc := 49) (v := iv 2) gX gB dC_isSecondRegion_49 rfl ?_
      refine jv_irem (pc := 50) (x := (i - 1) - s) (y := 2) gX gB dC_isSecondRegion_50 (by omega) (by omega) ?_
      refine lv_iconst (pc := 51) (v := iv 1) gX gB dC_isSecondRegion_51 rfl ?_
      refine jv_icmp_ne (pc := 52) (tgt := 59) gX gB dC_isSecondRegion_52 (by decide) (by omega) (by decide) (fun h2 => ?_) (fun h2 => ?_)
      · skip
        refine lv_iconst (pc := 59) (v := iv 0) gX gB dC_isSecondRegion_59 rfl ?_
        exact hret _ (0) dC_isSecondRegion_60 (Or.inl rfl) ⟨rfl, by first | exact ⟨Or.inr rfl, ⟨fun _ => ⟨by omega, by omega⟩, fun _ => rfl⟩⟩ | exact ⟨Or.inl rfl, ⟨fun z => by omega, fun z => by omega⟩⟩⟩ hP hD hS
      refine lv_iconst (pc := 55) (v := iv 1) gX gB dC_isSecondRegion_55 rfl ?_
      refine lv_goto (pc := 56) (tgt := 60) gX gB dC_isSecondRegion_56 (by decide) ?_
      exact hret _ (1) dC_isSecondRegion_60 (Or.inr rfl) ⟨rfl, by first | exact ⟨Or.inr rfl, ⟨fun _ => ⟨by omega, by omega⟩, fun _ => rfl⟩⟩ | exact ⟨Or.inl rfl, ⟨fun z => by omega, fun z => by omega⟩⟩⟩ hP hD hS
    have cut20 : ∀ (n0 : Nat) (s : Int) (ls : Array Slot) (H : Heap) (locs : List Loc), (-1 ≤ s ∧ s ≤ i - 1) → (rcf pr1 xf i.toNat = rcf pr1 xf (s + 1).toNat + (i - 1 - s)) → ((s + 1 : Int).toNat < n0) → lv_has ls 4 [(0, .ref (tA 0)), (1, .ref xa), (2, .int (iv i)), (3, .int (iv s))] → va_P (dC, dI) vwCl (wTR cI cZ cG cR tA pr0 pr1 pr2 pr3 pr4 pr5 pr6 t1 t2 ex pt pn tc xa xi xn xs xf) H → va_D A0 (wTR cI cZ cG cR tA pr0 pr1 pr2 pr3 pr4 pr5 pr6 t1 t2 ex pt pn tc xa xi xn xs xf) → va_S A0 s0.heap H locs → W p0 l e0 R0 s0 m0 a0 b0 t0 c0 H locs 0 0 Q0 (F0 m0 20 ls []) := by
      intro n0
      induction n0 with
      | zero => intro s ls H locs hs hq hm hl hP hD hS; exact absurd hm (Nat.not_lt_zero _)
      | succ n0 ih20 =>
        intro s ls H locs hs hq hm20 hl hP hD hS
        refine lv_iload_n (pc := 20) gX gB dC_isSecondRegion_20 rfl (lv_at hl 3 rfl) ?_
        refine jv_if_lt (pc := 21) (tgt := 44) gX gB dC_isSecondRegion_21 (by decide) (by omega) (fun h3 => ?_) (fun h3 => ?_)
        · skip
          exact cut44 s _ _ _ (by omega) (by rw [hq, show s = -1 by omega]; show (0 : Int) + _ = _; omega) hl hP hD hS
        have hxs := hxf s (by omega) (by omega)
        have hcs := hp1 _ hxs.1 hxs.2
        have hps := rcf_s (cz := pr1) (tx := xf) (s := s) (by omega)
        refine lv_aload_n (pc := 24) gX gB dC_isSecondRegion_24 rfl (lv_at hl 0 rfl) ?_
        refine lv_aload_n (pc := 25) gX gB dC_isSecondRegion_25 rfl (lv_at hl 1 rfl) ?_
        refine lv_iload_n (pc := 26) gX gB dC_isSecondRegion_26 rfl (lv_at hl 3 rfl) ?_
        refine jv_ri (pc := 27) (wr := [(tA 0, .inr (1, [.ref (tA 1), .ref (tA 9), .ref (tA 10), .ref (tA 11), .ref (tA 12), .ref (tA 13), .ref (tA 14)])), (tA 1, .inl (cG, 7, .inr (.inr (.inr (.inr (rfs [tA 2, tA 3, tA 4, tA 5, tA 6, tA 7, tA 8])))))), (tA 2, .inl (cI, 75, .inl (av pr0))), (tA 3, .inl (cI, 75, .inl (av pr1))), (tA 4, .inl (cI, 75, .inl (av pr2))), (tA 5, .inl (cI, 75, .inl (av pr3))), (tA 6, .inl (cI, 75, .inl (av pr4))), (tA 7, .inl (cI, 75, .inl (av pr5))), (tA 8, .inl (cI, 75, .inl (av pr6))), (tA 9, .inl (cI, 75, .inl (av t1))), (tA 10, .inl (cI, 75, .inl (av t2))), (tA 11, .inl (cZ, 75, .inl (av ex))), (tA 12, .inl (cI, 300, .inl (av pt))), (tA 13, .inl (cI, 75, .inl (av pn))), (tA 14, .inl (cI, 75, .inl (av tc)))]) (wn := fun u : Int => (wTR cI cZ cG cR tA pr0 pr1 pr2 pr3 pr4 pr5 pr6 t1 t2 ex pt pn tc xa xi xn xs xf)) (va_runV (rest := [.ref (tA 0)]) ⟨gX, gB, hml, hown, hw0⟩ (c_R_item l dC dI cI cZ cG cR xa xi xn xs xf _ s (by omega) (by omega)) (jcV hw0 kR_item q182 rfl rfl ⟨Nat.le_trans (Nat.le_of_ble_eq_true rfl) hRf, Nat.le_trans (Nat.le_of_ble_eq_true rfl) hRl⟩) (jv_preV (ci := 2) (q0 := 15) hK hP hD [15, 16] rfl (by decide) rfl rfl) rfl rfl hl.1 rfl (lv_room (Nat.le_of_ble_eq_true rfl)) dC_isSecondRegion_27 ⟨Nat.zero_le _, Nat.zero_le _⟩) hP hD hS hA [15, 16] [0, 1, 2, 3, 4, 5, 6, 7, 8, 9, 10, 11, 12, 13, 14] [0, 1, 2, 3, 4, 5, 6, 7, 8, 9, 10, 11, 12, 13, 14, 15, 16] rfl rfl (by decide) (by decide) (by decide) (fun _ => rfl) (fun r0 u H locs hw27 hP hD hS => ?_)
        obtain ⟨r_27, hu⟩ : ∃ z, z = u := ⟨_, rfl⟩; subst hu
        obtain ⟨rfl, hw27⟩ := hw27
        refine jv_ri (pc := 30) (wr := [(xa, .inr (2, [.ref xi, .int (iv xs)])), (xi, .inl (cI, xn, .inl (av xf)))]) (wn := fun u : Int => (wTR cI cZ cG cR tA pr0 pr1 pr2 pr3 pr4 pr5 pr6 t1 t2 ex pt pn tc xa xi xn xs xf)) (va_runV (rest := []) ⟨gX, gB, hml, hown, hw0⟩ (c_T_clusterClass l dC dI cI cZ cG cR tA pr0 pr1 pr2 pr3 pr4 pr5 pr6 t1 t2 ex pt pn tc _ r_27 (by rw [hw27]; exact hxs)) (jcV hw0 kT_clusterClass q186 rfl rfl ⟨Nat.le_trans (Nat.le_of_ble_eq_true rfl) hRf, Nat.le_trans (Nat.le_of_ble_eq_true rfl) hRl⟩) (jv_preV (ci := 1) (q0 := 0) hK hP hD [0, 1, 2, 3, 4, 5, 6, 7, 8, 9, 10, 11, 12, 13, 14] rfl (by decide) rfl rfl) rfl rfl hl.1 rfl (lv_room (Nat.le_of_ble_eq_true rfl)) dC_isSecondRegion_30 ⟨Nat.zero_le _, Nat.zero_le _⟩) hP hD hS hA [0, 1, 2, 3, 4, 5, 6, 7, 8, 9, 10, 11, 12, 13, 14] [15, 16] [2, 3, 4, 5, 6, 7, 8, 9, 10, 11, 12, 13, 14, 15, 16, 0, 1] rfl rfl (by decide) (by decide) (by decide) (fun _ => rfl) (fun r0 u H locs hw30 hP hD hS => ?_)
        obtain ⟨r_30, hu⟩ : ∃ z, z = u := ⟨_, rfl⟩; subst hu
        obtain ⟨rfl, hw30⟩ := hw30
        have hr30 : r_30 = pr1 (xf s) := by rw [hw30, hw27]
        refine lv_bipush (pc := 33) (v := iv 6) gX gB dC_isSecondRegion_33 (by decide) ?_
        refine jv_icmp_ne (pc := 35) (tgt := 44) gX gB dC_isSecondRegion_35 (by decide) (by omega) (by decide) (fun h4 => ?_) (fun h4 => ?_)
        · skip
          exact cut44 s _ _ _ (by omega) (by rw [if_neg (by omega)] at hps; omega) hl hP hD hS
        refine jv_idec (pc := 38) (k := 3) (x := s) (n := (-1)) (d := 1) (lv' := [(3, .int (iv (s - 1))), (0, .ref (tA 0)), (1, .ref xa), (2, .int (iv i))]) gX gB dC_isSecondRegion_38 (by decide) hl rfl (by decide) rfl (fun ls hl => ?_)
        refine lv_goto (pc := 41) (tgt := 20) gX gB dC_isSecondRegion_41 (by decide) ?_
        exact ih20 (s - 1) _ _ _ (by omega) (by rw [if_pos (by omega)] at hps; rw [show s - 1 + 1 = s by omega]; omega) (by omega) (lv_sub hl [1, 2, 3, 0] rfl) hP hD hS
    exact cut20 ((((i - 1) + 1 : Int).toNat) + 1) (i - 1) _ _ _ (by omega) (by rw [show i - 1 + 1 = i by omega]; omega) (Nat.lt_succ_self _) (lv_sub hl [1, 2, 3, 0] rfl) hP hD hS
  refine lv_iconst (pc := 14) (v := iv 0) gX gB dC_isSecondRegion_14 rfl ?_
  exact hret _ (0) dC_isSecondRegion_15 (Or.inl rfl) ⟨rfl, by exact ⟨Or.inl rfl, ⟨fun z => by omega, fun z => by omega⟩⟩⟩ hP hD hS
set_option maxRecDepth 100000 in
set_option maxHeartbeats 4000000 in
theorem c_C_endsBefore (l : Launch) (dC : Nat → ClassId) (dI : Nat → Nat → Nat) (cI : ClassId) (cZ : ClassId) (cG : ClassId) (cR : ClassId) (tA : Nat → Nat) (pr0 : Int → Int) (pr1 : Int → Int) (pr2 : Int → Int) (pr3 : Int → Int) (pr4 : Int → Int) (pr5 : Int → Int) (pr6 : Int → Int) (t1 : Int → Int) (t2 : Int → Int) (ex : Int → Int) (pt : Int → Int) (pn : Int → Int) (tc : Int → Int) (xa : Nat) (xi : Nat) (xn : Nat) (xs : Int) (xf : Int → Int) (sz : Nat) (i : Int) (hcap : xn < 1000) (hsx : 0 ≤ xs ∧ xs ≤ (xn : Int) ∧ xs ≤ 40) (hxf : ∀ j, 0 ≤ j → j < xs → 0 ≤ xf j ∧ xf j < 75) (hp1 : ∀ c, 0 ≤ c → c < 75 → 0 ≤ pr1 c ∧ pr1 c ≤ 9) (hi : -2147483648 ≤ i ∧ i < 2147483648) : Met l yC_endsBefore wsC_endsBefore ({ frames := 3, cells := 0, slots := 0, locals := 61 }) (va_Pc [.ref (tA 0), .ref xa, .int (iv i)] (jPre (dC, dI) (jT cI cZ cG cR) (wTR cI cZ cG cR tA pr0 pr1 pr2 pr3 pr4 pr5 pr6 t1 t2 ex pt pn tc xa xi xn xs xf) sz)) (va_Qi (fun (r0 : Int32) (u : Int) => r0 = iv u ∧ ((u = 0 ∨ u = 1) ∧ u = (if i ≤ 0 ∨ xs ≤ i then 1 else evf pr1 xf i))) (fun u => jEnd (dC, dI) (jT cI cZ cG cR) (va_A (wTR cI cZ cG cR tA pr0 pr1 pr2 pr3 pr4 pr5 pr6 t1 t2 ex pt pn tc xa xi xn xs xf) sz) (wTR cI cZ cG cR tA pr0 pr1 pr2 pr3 pr4 pr5 pr6 t1 t2 ex pt pn tc xa xi xn xs xf)) (va_A (wTR cI cZ cG cR tA pr0 pr1 pr2 pr3 pr4 pr5 pr6 t1 t2 ex pt pn tc xa xi xn xs xf) sz)) 0 0 (va_A (wTR cI cZ cG cR tA pr0 pr1 pr2 pr3 pr4 pr5 pr6 t1 t2 ex pt pn tc xa xi xn xs xf) sz) := by
  refine jv_mz (cc := cC_endsBefore) (maxL := 5) (by decide) rfl (Nat.le_of_ble_eq_true rfl) ?_
  intro p0 e0 s0 m0 a0 b0 t0 c0 R0 Q0 A0 ls gX gB hts hown hml hRf hRl hA hK hret hl hP hD hS
  have hown : s0.vm.findClass "TextPipeline$Clusters" = some m0.cls := hown
  have hw0 : ∀ w ∈ WS0, w.before a0 s0 = true := fun w h => hts w (List.mem_cons_of_mem _ h)
  have hl : lv_has ls 5 [(0, .ref (tA 0)), (1, .ref xa), (2, .int (iv i))] := hl
  have hRf : 3 ≤ R0.frames := hRf
  have hRl : 61 ≤ R0.locals := hRl
  have cut12 : ∀ (ls : Array Slot) (H : Heap) (locs : List Loc), (i ≤ 0 ∨ xs ≤ i) → lv_has ls 5 [(0, .ref (tA 0)), (1, .ref xa), (2, .int (iv i))] → va_P (dC, dI) vwCl (wTR cI cZ cG cR tA pr0 pr1 pr2 pr3 pr4 pr5 pr6 t1 t2 ex pt pn tc xa xi xn xs xf) H → va_D A0 (wTR cI cZ cG cR tA pr0 pr1 pr2 pr3 pr4 pr5 pr6 t1 t2 ex pt pn tc xa xi xn xs xf) → va_S A0 s0.heap H locs → W p0 l e0 R0 s0 m0 a0 b0 t0 c0 H locs 0 0 Q0 (F0 m0 12 ls []) := by
    intro  ls H locs h12 hl hP hD hS
    refine lv_iconst (pc := 12) (v := iv 1) gX gB dC_endsBefore_12 rfl ?_
    exact hret _ (1) dC_endsBefore_13 (Or.inr rfl) ⟨rfl, by refine ⟨Or.inr rfl, ?_⟩; rw [if_pos h12]⟩ hP hD hS
  refine lv_iload_n (pc := 0) gX gB dC_endsBefore_0 rfl (lv_at hl 2 rfl) ?_
  refine jv_if_le (pc := 1) (tgt := 12) gX gB dC_endsBefore_1 (by decide) (by omega) (fun h1 => ?_) (fun h1 => ?_)
  · skip
    exact cut12  _ _ _ (by exact Or.inl (by omega)) hl hP hD hS
  refine lv_iload_n (pc := 4) gX gB dC_endsBefore_4 rfl (lv_at hl 2 rfl) ?_
  refine lv_aload_n (pc := 5) gX gB dC_endsBefore_5 rfl (lv_at hl 1 rfl) ?_
  refine jv_ri (pc := 6) (wr := [(tA 0, .inr (1, [.ref (tA 1), .ref (tA 9), .ref (tA 10), .ref (tA 11), .ref (tA 12), .ref (tA 13), .ref (tA 14)])), (tA 1, .inl (cG, 7, .inr (.inr (.inr (.inr (rfs [tA 2, tA 3, tA 4, tA 5, tA 6, tA 7, tA 8])))))), (tA 2, .inl (cI, 75, .inl (av pr0))), (tA 3, .inl (cI, 75, .inl (av pr1))), (tA 4, .inl (cI, 75, .inl (av pr2))), (tA 5, .inl (cI, 75, .inl (av pr3))), (tA 6, .inl (cI, 75, .inl (av pr4))), (tA 7, .inl (cI, 75, .inl (av pr5))), (tA 8, .inl (cI, 75, .inl (av pr6))), (tA 9, .inl (cI, 75, .inl (av t1))), (tA 10, .inl (cI, 75, .inl (av t2))), (tA 11, .inl (cZ, 75, .inl (av ex))), (tA 12, .inl (cI, 300, .inl (av pt))), (tA 13, .inl (cI, 75, .inl (av pn))), (tA 14, .inl (cI, 75, .inl (av tc)))]) (wn := fun u : Int => (wTR cI cZ cG cR tA pr0 pr1 pr2 pr3 pr4 pr5 pr6 t1 t2 ex pt pn tc xa xi xn xs xf)) (va_runV (rest := [.int (iv i)]) ⟨gX, gB, hml, hown, hw0⟩ (c_R_size l dC dI cI cZ cG cR xa xi xn xs xf _  ) (jcV hw0 kR_size q181 rfl rfl ⟨Nat.le_trans (Nat.le_of_ble_eq_true rfl) hRf, Nat.le_trans (Nat.le_of_ble_eq_true rfl) hRl⟩) (jv_preV (ci := 2) (q0 := 15) hK hP hD [15, 16] rfl (by decide) rfl rfl) rfl rfl hl.1 rfl (lv_room (Nat.le_of_ble_eq_true rfl)) dC_endsBefore_6 ⟨Nat.zero_le _, Nat.zero_le _⟩) hP hD hS hA [15, 16] [0, 1, 2, 3, 4, 5, 6, 7, 8, 9, 10, 11, 12, 13, 14] [0, 1, 2, 3, 4, 5, 6, 7, 8, 9, 10, 11, 12, 13, 14, 15, 16] rfl rfl (by decide) (by decide) (by decide) (fun _ => rfl) (fun r0 u H locs hw6 hP hD hS => ?_)
  obtain ⟨r_6, hu⟩ : ∃ z, z = u := ⟨_, rfl⟩; subst hu
  obtain ⟨rfl, hw6⟩ := hw6
  refine jv_icmp_lt (pc := 9) (tgt := 14) gX gB dC_endsBefore_9 (by decide) (by omega) (by omega) (fun h2 => ?_) (fun h2 => ?_)
  · skip
    have hnp : ¬ (i ≤ 0 ∨ xs ≤ i) := by omega
    have hx1 := hxf i (by omega) (by omega)
    have hx2 := hxf (i - 1) (by omega) (by omega)
    have hc1 := hp1 _ hx1.1 hx1.2
    have hc2 := hp1 _ hx2.1 hx2.2
    refine lv_aload_n (pc := 14) gX gB dC_endsBefore_14 rfl (lv_at hl 0 rfl) ?_
    refine lv_aload_n (pc := 15) gX gB dC_endsBefore_15 rfl (lv_at hl 1 rfl) ?_
    refine lv_iload_n (pc := 16) gX gB dC_endsBefore_16 rfl (lv_at hl 2 rfl) ?_
    refine lv_iconst (pc := 17) (v := iv 1) gX gB dC_endsBefore_17 rfl ?_
    refine jv_isub (pc := 18) (x := i) (y := 1) gX gB dC_endsBefore_18 ?_
    refine jv_ri (pc := 19) (wr := [(tA 0, .inr (1, [.ref (tA 1), .ref (tA 9), .ref (tA 10), .ref (tA 11), .ref (tA 12), .ref (tA 13), .ref (tA 14)])), (tA 1, .inl (cG, 7, .inr (.inr (.inr (.inr (rfs [tA 2, tA 3, tA 4, tA 5, tA 6, tA 7, tA 8])))))), (tA 2, .inl (cI, 75, .inl (av pr0))), (tA 3, .inl (cI, 75, .inl (av pr1))), (tA 4, .inl (cI, 75, .inl (av pr2))), (tA 5, .inl (cI, 75, .inl (av pr3))), (tA 6, .inl (cI, 75, .inl (av pr4))), (tA 7, .inl (cI, 75, .inl (av pr5))), (tA 8, .inl (cI, 75, .inl (av pr6))), (tA 9, .inl (cI, 75, .inl (av t1))), (tA 10, .inl (cI, 75, .inl (av t2))), (tA 11, .inl (cZ, 75, .inl (av ex))), (tA 12, .inl (cI, 300, .inl (av pt))), (tA 13, .inl (cI, 75, .inl (av pn))), (tA 14, .inl (cI, 75, .inl (av tc)))]) (wn := fun u : Int => (wTR cI cZ cG cR tA pr0 pr1 pr2 pr3 pr4 pr5 pr6 t1 t2 ex pt pn tc xa xi xn xs xf)) (va_runV (rest := [.ref (tA 0)]) ⟨gX, gB, hml, hown, hw0⟩ (c_R_item l dC dI cI cZ cG cR xa xi xn xs xf _ (i - 1) (by omega) (by omega)) (jcV hw0 kR_item q182 rfl rfl ⟨Nat.le_trans (Nat.le_of_ble_eq_true rfl) hRf, Nat.le_trans (Nat.le_of_ble_eq_true rfl) hRl⟩) (jv_preV (ci := 2) (q0 := 15) hK hP hD [15, 16] rfl (by decide) rfl rfl) rfl rfl hl.1 rfl (lv_room (Nat.le_of_ble_eq_true rfl)) dC_endsBefore_19 ⟨Nat.zero_le _, Nat.zero_le _⟩) hP hD hS hA [15, 16] [0, 1, 2, 3, 4, 5, 6, 7, 8, 9, 10, 11, 12, 13, 14] [0, 1, 2, 3, 4, 5, 6, 7, 8, 9, 10, 11, 12, 13, 14, 15, 16] rfl rfl (by decide) (by decide) (by decide) (fun _ => rfl) (fun r0 u H locs hw19 hP hD hS => ?_)
    obtain ⟨r_19, hu⟩ : ∃ z, z = u := ⟨_, rfl⟩; subst hu
    obtain ⟨rfl, hw19⟩ := hw19
    refine jv_ri (pc := 22) (wr := [(xa, .inr (2, [.ref xi, .int (iv xs)])), (xi, .inl (cI, xn, .inl (av xf)))]) (wn := fun u : Int => (wTR cI cZ cG cR tA pr0 pr1 pr2 pr3 pr4 pr5 pr6 t1 t2 ex pt pn tc xa xi xn xs xf)) (va_runV (rest := []) ⟨gX, gB, hml, hown, hw0⟩ (c_T_clusterClass l dC dI cI cZ cG cR tA pr0 pr1 pr2 pr3 pr4 pr5 pr6 t1 t2 ex pt pn tc _ r_19 (by rw [hw19]; exact hx2)) (jcV hw0 kT_clusterClass q186 rfl rfl ⟨Nat.le_trans (Nat.le_of_ble_eq_true rfl) hRf, Nat.le_trans (Nat.le_of_ble_eq_true rfl) hRl⟩) (jv_preV (ci := 1) (q0 := 0) hK hP hD [0, 1, 2, 3, 4, 5, 6, 7, 8, 9, 10, 11, 12, 13, 14] rfl (by decide) rfl rfl) rfl rfl hl.1 rfl (lv_room (Nat.le_of_ble_eq_true rfl)) dC_endsBefore_22 ⟨Nat.zero_le _, Nat.zero_le _⟩) hP hD hS hA [0, 1, 2, 3, 4, 5, 6, 7, 8, 9, 10, 11, 12, 13, 14] [15, 16] [2, 3, 4, 5, 6, 7, 8, 9, 10, 11, 12, 13, 14, 15, 16, 0, 1] rfl rfl (by decide) (by decide) (by decide) (fun _ => rfl) (fun r0 u H locs hw22 hP hD hS => ?_)
    obtain ⟨r_22, hu⟩ : ∃ z, z = u := ⟨_, rfl⟩; subst hu
    obtain ⟨rfl, hw22⟩ := hw22
    have hr22 : r_22 = pr1 (xf (i - 1)) := by rw [hw22, hw19]
    refine lv_istore_n (pc := 25) (lv' := [(3, .int (iv r_22)), (0, .ref (tA 0)), (1, .ref xa), (2, .int (iv i))]) gX gB dC_endsBefore_25 rfl hl (by decide) rfl (fun ls hl => ?_)
    refine lv_aload_n (pc := 26) gX gB dC_endsBefore_26 rfl (lv_at hl 1 rfl) ?_
    refine lv_aload_n (pc := 27) gX gB dC_endsBefore_27 rfl (lv_at hl 2 rfl) ?_
    refine lv_iload_n (pc := 28) gX gB dC_endsBefore_28 rfl (lv_at hl 3 rfl) ?_
    refine jv_ri (pc := 29) (wr := [(tA 0, .inr (1, [.ref (tA 1), .ref (tA 9), .ref (tA 10), .ref (tA 11), .ref (tA 12), .ref (tA 13), .ref (tA 14)])), (tA 1, .inl (cG, 7, .inr (.inr (.inr (.inr (rfs [tA 2, tA 3, tA 4, tA 5, tA 6, tA 7, tA 8])))))), (tA 2, .inl (cI, 75, .inl (av pr0))), (tA 3, .inl (cI, 75, .inl (av pr1))), (tA 4, .inl (cI, 75, .inl (av pr2))), (tA 5, .inl (cI, 75, .inl (av pr3))), (tA 6, .inl (cI, 75, .inl (av pr4))), (tA 7, .inl (cI, 75, .inl (av pr5))), (tA 8, .inl (cI, 75, .inl (av pr6))), (tA 9, .inl (cI, 75, .inl (av t1))), (tA 10, .inl (cI, 75, .inl (av t2))), (tA 11, .inl (cZ, 75, .inl (av ex))), (tA 12, .inl (cI, 300, .inl (av pt))), (tA 13, .inl (cI, 75, .inl (av pn))), (tA 14, .inl (cI, 75, .inl (av tc)))]) (wn := fun u : Int => (wTR cI cZ cG cR tA pr0 pr1 pr2 pr3 pr4 pr5 pr6 t1 t2 ex pt pn tc xa xi xn xs xf)) (va_runV (rest := [.ref (tA 0)]) ⟨gX, gB, hml, hown, hw0⟩ (c_R_item l dC dI cI cZ cG cR xa xi xn xs xf _ i (by omega) (by omega)) (jcV hw0 kR_item q182 rfl rfl ⟨Nat.le_trans (Nat.le_of_ble_eq_true rfl) hRf, Nat.le_trans (Nat.le_of_ble_eq_true rfl) hRl⟩) (jv_preV (ci := 2) (q0 := 15) hK hP hD [15, 16] rfl (by decide) rfl rfl) rfl rfl hl.1 rfl (lv_room (Nat.le_of_ble_eq_true rfl)) dC_endsBefore_29 ⟨Nat.zero_le _, Nat.zero_le _⟩) hP hD hS hA [15, 16] [0, 1, 2, 3, 4, 5, 6, 7, 8, 9, 10, 11, 12, 13, 14] [0, 1, 2, 3, 4, 5, 6, 7, 8, 9, 10, 11, 12, 13, 14, 15, 16] rfl rfl (by decide) (by decide) (by decide) (fun _ => rfl) (fun r0 u H locs hw29 hP hD hS => ?_)
    obtain ⟨r_29, hu⟩ : ∃ z, z = u := ⟨_, rfl⟩; subst hu
    obtain ⟨rfl, hw29⟩ := hw29
    refine jv_ri (pc := 32) (wr := [(xa, .inr (2, [.ref xi, .int (iv xs)])), (xi, .inl (cI, xn, .inl (av xf)))]) (wn := fun u : Int => (wTR cI cZ cG cR tA pr0 pr1 pr2 pr3 pr4 pr5 pr6 t1 t2 ex pt pn tc xa xi xn xs xf)) (va_runV (rest := []) ⟨gX, gB, hml, hown, hw0⟩ (c_T_clusterClass l dC dI cI cZ cG cR tA pr0 pr1 pr2 pr3 pr4 pr5 pr6 t1 t2 ex pt pn tc _ r_29 (by rw [hw29]; exact hx1)) (jcV hw0 kT_clusterClass q186 rfl rfl ⟨Nat.le_trans (Nat.le_of_ble_eq_true rfl) hRf, Nat.le_trans (Nat.le_of_ble_eq_true rfl) hRl⟩) (jv_preV (ci := 1) (q0 := 0) hK hP hD [0, 1, 2, 3, 4, 5, 6, 7, 8, 9, 10, 11, 12, 13, 14] rfl (by decide) rfl rfl) rfl rfl hl.1 rfl (lv_room (Nat.le_of_ble_eq_true rfl)) dC_endsBefore_32 ⟨Nat.zero_le _, Nat.zero_le _⟩) hP hD hS hA [0, 1, 2, 3, 4, 5, 6, 7, 8, 9, 10, 11, 12, 13, 14] [15, 16] [2, 3, 4, 5, 6, 7, 8, 9, 10, 11, 12, 13, 14, 15, 16, 0, 1] rfl rfl (by decide) (by decide) (by decide) (fun _ => rfl) (fun r0 u H locs hw32 hP hD hS => ?_)
    obtain ⟨r_32, hu⟩ : ∃ z, z = u := ⟨_, rfl⟩; subst hu
    obtain ⟨rfl, hw32⟩ := hw32
    have hr32 : r_32 = pr1 (xf i) := by rw [hw32, hw29]
    refine lv_istore (pc := 35) (lv' := [(4, .int (iv r_32)), (3, .int (iv r_22)), (0, .ref (tA 0)), (1, .ref xa), (2, .int (iv i))]) gX gB dC_endsBefore_35 hl (by decide) rfl (fun ls hl => ?_)
    have cut50 : ∀ (ls : Array Slot) (H : Heap) (locs : List Loc), (¬ (pr1 (xf (i - 1)) = 1 ∧ pr1 (xf i) = 2)) → lv_has ls 5 [(0, .ref (tA 0)), (1, .ref xa), (2, .int (iv i)), (3, .int (iv r_22)), (4, .int (iv r_32))] → va_P (dC, dI) vwCl (wTR cI cZ cG cR tA pr0 pr1 pr2 pr3 pr4 pr5 pr6 t1 t2 ex pt pn tc xa xi xn xs xf) H → va_D A0 (wTR cI cZ cG cR tA pr0 pr1 pr2 pr3 pr4 pr5 pr6 t1 t2 ex pt pn tc xa xi xn xs xf) → va_S A0 s0.heap H locs → W p0 l e0 R0 s0 m0 a0 b0 t0 c0 H locs 0 0 Q0 (F0 m0 50 ls []) := by
      intro  ls H locs h50 hl hP hD hS
      have cut65 : ∀ (ls : Array Slot) (H : Heap) (locs : List Loc), ((0 < pr1 (xf (i - 1)) ∧ pr1 (xf (i - 1)) < 4) ∨ (0 < pr1 (xf i) ∧ pr1 (xf i) < 4)) → lv_has ls 5 [(0, .ref (tA 0)), (1, .ref xa), (2, .int (iv i)), (3, .int (iv r_22)), (4, .int (iv r_32))] → va_P (dC, dI) vwCl (wTR cI cZ cG cR tA pr0 pr1 pr2 pr3 pr4 pr5 pr6 t1 t2 ex pt pn tc xa xi xn xs xf) H → va_D A0 (wTR cI cZ cG cR tA pr0 pr1 pr2 pr3 pr4 pr5 pr6 t1 t2 ex pt pn tc xa xi xn xs xf) → va_S A0 s0.heap H locs → W p0 l e0 R0 s0 m0 a0 b0 t0 c0 H locs 0 0 Q0 (F0 m0 65 ls []) := by
        intro  ls H locs h65 hl hP hD hS
        refine lv_iconst (pc := 65) (v := iv 1) gX gB dC_endsBefore_65 rfl ?_
        exact hret _ (1) dC_endsBefore_66 (Or.inr rfl) ⟨rfl, by refine ⟨Or.inr rfl, ?_⟩; rw [if_neg hnp]; unfold evf; rw [if_neg h50, if_pos h65]⟩ hP hD hS
      refine lv_iload_n (pc := 50) gX gB dC_endsBefore_50 rfl (lv_at hl 3 rfl) ?_
      refine jv_ri (pc := 51) (wr := [(tA 0, .inr (1, [.ref (tA 1), .ref (tA 9), .ref (tA 10), .ref (tA 11), .ref (tA 12), .ref (tA 13), .ref (tA 14)])), (tA 1, .inl (cG, 7, .inr (.inr (.inr (.inr (rfs [tA 2, tA 3, tA 4, tA 5, tA 6, tA 7, tA 8])))))), (tA 2, .inl (cI, 75, .inl (av pr0))), (tA 3, .inl (cI, 75, .inl (av pr1))), (tA 4, .inl (cI, 75, .inl (av pr2))), (tA 5, .inl (cI, 75, .inl (av pr3))), (tA 6, .inl (cI, 75, .inl (av pr4))), (tA 7, .inl (cI, 75, .inl (av pr5))), (tA 8, .inl (cI, 75, .inl (av pr6))), (tA 9, .inl (cI, 75, .inl (av t1))), (tA 10, .inl (cI, 75, .inl (av t2))), (tA 11, .inl (cZ, 75, .inl (av ex))), (tA 12, .inl (cI, 300, .inl (av pt))), (tA 13, .inl (cI, 75, .inl (av pn))), (tA 14, .inl (cI, 75, .inl (av tc))), (xa, .inr (2, [.ref xi, .int (iv xs)])), (xi, .inl (cI, xn, .inl (av xf)))]) (wn := fun u : Int => (wTR cI cZ cG cR tA pr0 pr1 pr2 pr3 pr4 pr5 pr6 t1 t2 ex pt pn tc xa xi xn xs xf)) (va_runS (rest := []) ⟨gX, gB, hml, hown, hw0⟩ (c_C_standsAlone l dC dI cI cZ cG cR  _ r_22 (by rw [hr22]; exact hc2)) (jcS hw0 kC_standsAlone q190 rfl rfl ⟨Nat.le_trans (Nat.le_of_ble_eq_true rfl) hRf, Nat.le_trans (Nat.le_of_ble_eq_true rfl) hRl⟩) (jv_preS hK hP hD [] rfl (by decide)) rfl rfl hl.1 rfl (lv_room (Nat.le_of_ble_eq_true rfl)) dC_endsBefore_51 ⟨Nat.zero_le _, Nat.zero_le _⟩) hP hD hS hA [] [0, 1, 2, 3, 4, 5, 6, 7, 8, 9, 10, 11, 12, 13, 14, 15, 16] [0, 1, 2, 3, 4, 5, 6, 7, 8, 9, 10, 11, 12, 13, 14, 15, 16] rfl rfl (by decide) (by decide) (by decide) (fun _ => rfl) (fun r0 u H locs hw51 hP hD hS => ?_)
      obtain ⟨r_51, hu⟩ : ∃ z, z = u := ⟨_, rfl⟩; subst hu
      obtain ⟨rfl, hw51⟩ := hw51
      refine jv_if_ne (pc := 54) (tgt := 65) gX gB dC_endsBefore_54 (by decide) (by omega) (fun h3 => ?_) (fun h3 => ?_)
      · skip
        exact cut65  _ _ _ (by exact Or.inl (by omega)) hl hP hD hS
      refine lv_iload (pc := 57) gX gB dC_endsBefore_57 (lv_at hl 4 rfl) ?_
      refine jv_ri (pc := 59) (wr := [(tA 0, .inr (1, [.ref (tA 1), .ref (tA 9), .ref (tA 10), .ref (tA 11), .ref (tA 12), .ref (tA 13), .ref (tA 14)])), (tA 1, .inl (cG, 7, .inr (.inr (.inr (.inr (rfs [tA 2, tA 3, tA 4, tA 5, tA 6, tA 7, tA 8])))))), (tA 2, .inl (cI, 75, .inl (av pr0))), (tA 3, .inl (cI, 75, .inl (av pr1))), (tA 4, .inl (cI, 75, .inl (av pr2))), (tA 5, .inl (cI, 75, .inl (av pr3))), (tA 6, .inl (cI, 75, .inl (av pr4))), (tA 7, .inl (cI, 75, .inl (av pr5))), (tA 8, .inl (cI, 75, .inl (av pr6))), (tA 9, .inl (cI, 75, .inl (av t1))), (tA 10, .inl (cI, 75, .inl (av t2))), (tA 11, .inl (cZ, 75, .inl (av ex))), (tA 12, .inl (cI, 300, .inl (av pt))), (tA 13, .inl (cI, 75, .inl (av pn))), (tA 14, .inl (cI, 75, .inl (av tc))), (xa, .inr (2, [.ref xi, .int (iv xs)])), (xi, .inl (cI, xn, .inl (av xf)))]) (wn := fun u : Int => (wTR cI cZ cG cR tA pr0 pr1 pr2 pr3 pr4 pr5 pr6 t1 t2 ex pt pn tc xa xi xn xs xf)) (va_runS (rest := []) ⟨gX, gB, hml, hown, hw0⟩ (c_C_standsAlone l dC dI cI cZ cG cR  _ r_32 (by rw [hr32]; exact hc1)) (jcS hw0 kC_standsAlone q190 rfl rfl ⟨Nat.le_trans (Nat.le_of_ble_eq_true rfl) hRf, Nat.le_trans (Nat.le_of_ble_eq_true rfl) hRl⟩) (jv_preS hK hP hD [] rfl (by decide)) rfl rfl hl.1 rfl (lv_room (Nat.le_of_ble_eq_true rfl)) dC_endsBefore_59 ⟨Nat.zero_le _, Nat.zero_le _⟩) hP hD hS hA [] [0, 1, 2, 3, 4, 5, 6, 7, 8, 9, 10, 11, 12, 13, 14, 15, 16] [0, 1, 2, 3, 4, 5, 6, 7, 8, 9, 10, 11, 12, 13, 14, 15, 16] rfl rfl (by decide) (by decide) (by decide) (fun _ => rfl) (fun r0 u H locs hw59 hP hD hS => ?_)
      obtain ⟨r_59, hu⟩ : ∃ z, z = u := ⟨_, rfl⟩; subst hu
      obtain ⟨rfl, hw59⟩ := hw59
      refine jv_if_eq (pc := 62) (tgt := 67) gX gB dC_endsBefore_62 (by decide) (by omega) (fun h4 => ?_) (fun h4 => ?_)
      · skip
        have h67 : ¬ ((0 < pr1 (xf (i - 1)) ∧ pr1 (xf (i - 1)) < 4) ∨ (0 < pr1 (xf i) ∧ pr1 (xf i) < 4)) := by omega
        have cut116 : ∀ (ls : Array Slot) (H : Heap) (locs : List Loc), (evf pr1 xf i = 0) → lv_has ls 5 [(0, .ref (tA 0)), (1, .ref xa), (2, .int (iv i))] → va_P (dC, dI) vwCl (wTR cI cZ cG cR tA pr0 pr1 pr2 pr3 pr4 pr5 pr6 t1 t2 ex pt pn tc xa xi xn xs xf) H → va_D A0 (wTR cI cZ cG cR tA pr0 pr1 pr2 pr3 pr4 pr5 pr6 t1 t2 ex pt pn tc xa xi xn xs xf) → va_S A0 s0.heap H locs → W p0 l e0 R0 s0 m0 a0 b0 t0 c0 H locs 0 0 Q0 (F0 m0 116 ls []) := by
          intro  ls H locs h116 hl hP hD hS
          refine lv_iconst (pc := 116) (v := iv 0) gX gB dC_endsBefore_116 rfl ?_
          exact hret _ (0) dC_endsBefore_117 (Or.inl rfl) ⟨rfl, by first | (refine ⟨Or.inl rfl, ?_⟩; rw [if_neg hnp]; exact h116.symm) | (refine ⟨Or.inr rfl, ?_⟩; rw [if_neg hnp]; exact h112.symm)⟩ hP hD hS
        refine lv_aload_n (pc := 67) gX gB dC_endsBefore_67 rfl (lv_at hl 1 rfl) ?_
        refine lv_iload_n (pc := 68) gX gB dC_endsBefore_68 rfl (lv_at hl 2 rfl) ?_
        refine lv_iconst (pc := 69) (v := iv 1) gX gB dC_endsBefore_69 rfl ?_
        refine jv_isub (pc := 70) (x := i) (y := 1) gX gB dC_endsBefore_70 ?_
        refine jv_ri (pc := 71) (wr := [(tA 0, .inr (1, [.ref (tA 1), .ref (tA 9), .ref (tA 10), .ref (tA 11), .ref (tA 12), .ref (tA 13), .ref (tA 14)])), (tA 1, .inl (cG, 7, .inr (.inr (.inr (.inr (rfs [tA 2, tA 3, tA 4, tA 5, tA 6, tA 7, tA 8])))))), (tA 2, .inl (cI, 75, .inl (av pr0))), (tA 3, .inl (cI, 75, .inl (av pr1))), (tA 4, .inl (cI, 75, .inl (av pr2))), (tA 5, .inl (cI, 75, .inl (av pr3))), (tA 6, .inl (cI, 75, .inl (av pr4))), (tA 7, .inl (cI, 75, .inl (av pr5))), (tA 8, .inl (cI, 75, .inl (av pr6))), (tA 9, .inl (cI, 75, .inl (av t1))), (tA 10, .inl (cI, 75, .inl (av t2))), (tA 11, .inl (cZ, 75, .inl (av ex))), (tA 12, .inl (cI, 300, .inl (av pt))), (tA 13, .inl (cI, 75, .inl (av pn))), (tA 14, .inl (cI, 75, .inl (av tc)))]) (wn := fun u : Int => (wTR cI cZ cG cR tA pr0 pr1 pr2 pr3 pr4 pr5 pr6 t1 t2 ex pt pn tc xa xi xn xs xf)) (va_runV (rest := []) ⟨gX, gB, hml, hown, hw0⟩ (c_R_item l dC dI cI cZ cG cR xa xi xn xs xf _ (i - 1) (by omega) (by omega)) (jcV hw0 kR_item q182 rfl rfl ⟨Nat.le_trans (Nat.le_of_ble_eq_true rfl) hRf, Nat.le_trans (Nat.le_of_ble_eq_true rfl) hRl⟩) (jv_preV (ci := 2) (q0 := 15) hK hP hD [15, 16] rfl (by decide) rfl rfl) rfl rfl hl.1 rfl (lv_room (Nat.le_of_ble_eq_true rfl)) dC_endsBefore_71 ⟨Nat.zero_le _, Nat.zero_le _⟩) hP hD hS hA [15, 16] [0, 1, 2, 3, 4, 5, 6, 7, 8, 9, 10, 11, 12, 13, 14] [0, 1, 2, 3, 4, 5, 6, 7, 8, 9, 10, 11, 12, 13, 14, 15, 16] rfl rfl (by decide) (by decide) (by decide) (fun _ => rfl) (fun r0 u H locs hw71 hP hD hS => ?_)
        obtain ⟨r_71, hu⟩ : ∃ z, z = u := ⟨_, rfl⟩; subst hu
        obtain ⟨rfl, hw71⟩ := hw71
        refine lv_aload_n (pc := 74) gX gB dC_endsBefore_74 rfl (lv_at hl 1 rfl) ?_
        refine lv_iload_n (pc := 75) gX gB dC_endsBefore_75 rfl (lv_at hl 2 rfl) ?_
        refine jv_ri (pc := 76) (wr := [(tA 0, .inr (1, [.ref (tA 1), .ref (tA 9), .ref (tA 10), .ref (tA 11), .ref (tA 12), .ref (tA 13), .ref (tA 14)])), (tA 1, .inl (cG, 7, .inr (.inr (.inr (.inr (rfs [tA 2, tA 3, tA 4, tA 5, tA 6, tA 7, tA 8])))))), (tA 2, .inl (cI, 75, .inl (av pr0))), (tA 3, .inl (cI, 75, .inl (av pr1))), (tA 4, .inl (cI, 75, .inl (av pr2))), (tA 5, .inl (cI, 75, .inl (av pr3))), (tA 6, .inl (cI, 75, .inl (av pr4))), (tA 7, .inl (cI, 75, .inl (av pr5))), (tA 8, .inl (cI, 75, .inl (av pr6))), (tA 9, .inl (cI, 75, .inl (av t1))), (tA 10, .inl (cI, 75, .inl (av t2))), (tA 11, .inl (cZ, 75, .inl (av ex))), (tA 12, .inl (cI, 300, .inl (av pt))), (tA 13, .inl (cI, 75, .inl (av pn))), (tA 14, .inl (cI, 75, .inl (av tc)))]) (wn := fun u : Int => (wTR cI cZ cG cR tA pr0 pr1 pr2 pr3 pr4 pr5 pr6 t1 t2 ex pt pn tc xa xi xn xs xf)) (va_runV (rest := [.int (iv r_71)]) ⟨gX, gB, hml, hown, hw0⟩ (c_R_item l dC dI cI cZ cG cR xa xi xn xs xf _ i (by omega) (by omega)) (jcV hw0 kR_item q182 rfl rfl ⟨Nat.le_trans (Nat.le_of_ble_eq_true rfl) hRf, Nat.le_trans (Nat.le_of_ble_eq_true rfl) hRl⟩) (jv_preV (ci := 2) (q0 := 15) hK hP hD [15, 16] rfl (by decide) rfl rfl) rfl rfl hl.1 rfl (lv_room (Nat.le_of_ble_eq_true rfl)) dC_endsBefore_76 ⟨Nat.zero_le _, Nat.zero_le _⟩) hP hD hS hA [15, 16] [0, 1, 2, 3, 4, 5, 6, 7, 8, 9, 10, 11, 12, 13, 14] [0, 1, 2, 3, 4, 5, 6, 7, 8, 9, 10, 11, 12, 13, 14, 15, 16] rfl rfl (by decide) (by decide) (by decide) (fun _ => rfl) (fun r0 u H locs hw76 hP hD hS => ?_)
        obtain ⟨r_76, hu⟩ : ∃ z, z = u := ⟨_, rfl⟩; subst hu
        obtain ⟨rfl, hw76⟩ := hw76
        refine jv_ri (pc := 79) (wr := [(tA 0, .inr (1, [.ref (tA 1), .ref (tA 9), .ref (tA 10), .ref (tA 11), .ref (tA 12), .ref (tA 13), .ref (tA 14)])), (tA 1, .inl (cG, 7, .inr (.inr (.inr (.inr (rfs [tA 2, tA 3, tA 4, tA 5, tA 6, tA 7, tA 8])))))), (tA 2, .inl (cI, 75, .inl (av pr0))), (tA 3, .inl (cI, 75, .inl (av pr1))), (tA 4, .inl (cI, 75, .inl (av pr2))), (tA 5, .inl (cI, 75, .inl (av pr3))), (tA 6, .inl (cI, 75, .inl (av pr4))), (tA 7, .inl (cI, 75, .inl (av pr5))), (tA 8, .inl (cI, 75, .inl (av pr6))), (tA 9, .inl (cI, 75, .inl (av t1))), (tA 10, .inl (cI, 75, .inl (av t2))), (tA 11, .inl (cZ, 75, .inl (av ex))), (tA 12, .inl (cI, 300, .inl (av pt))), (tA 13, .inl (cI, 75, .inl (av pn))), (tA 14, .inl (cI, 75, .inl (av tc))), (xa, .inr (2, [.ref xi, .int (iv xs)])), (xi, .inl (cI, xn, .inl (av xf)))]) (wn := fun u : Int => (wTR cI cZ cG cR tA pr0 pr1 pr2 pr3 pr4 pr5 pr6 t1 t2 ex pt pn tc xa xi xn xs xf)) (va_runS (rest := []) ⟨gX, gB, hml, hown, hw0⟩ (c_C_staysInSyllable l dC dI cI cZ cG cR  _ r_71 r_76 (by rw [hw71]; exact hx2) (by rw [hw76]; exact hx1)) (jcS hw0 kC_staysInSyllable q193 rfl rfl ⟨Nat.le_trans (Nat.le_of_ble_eq_true rfl) hRf, Nat.le_trans (Nat.le_of_ble_eq_true rfl) hRl⟩) (jv_preS hK hP hD [] rfl (by decide)) rfl rfl hl.1 rfl (lv_room (Nat.le_of_ble_eq_true rfl)) dC_endsBefore_79 ⟨Nat.zero_le _, Nat.zero_le _⟩) hP hD hS hA [] [0, 1, 2, 3, 4, 5, 6, 7, 8, 9, 10, 11, 12, 13, 14, 15, 16] [0, 1, 2, 3, 4, 5, 6, 7, 8, 9, 10, 11, 12, 13, 14, 15, 16] rfl rfl (by decide) (by decide) (by decide) (fun _ => rfl) (fun r0 u H locs hw79 hP hD hS => ?_)
        obtain ⟨r_79, hu⟩ : ∃ z, z = u := ⟨_, rfl⟩; subst hu
        obtain ⟨rfl, hw79⟩ := hw79
        have hsy : r_79 = sylv (xf (i - 1)) (xf i) := by rw [hw79.2, hw71, hw76]
        have hs01 := hw79.1
        refine jv_if_ne (pc := 82) (tgt := 116) gX gB dC_endsBefore_82 (by decide) (by omega) (fun h5 => ?_) (fun h5 => ?_)
        · skip
          exact cut116  _ _ _ (by exact cl_no h50 h67 (Or.inl (by omega))) (lv_sub hl [0, 1, 2] rfl) hP hD hS
        refine lv_iload_n (pc := 85) gX gB dC_endsBefore_85 rfl (lv_at hl 3 rfl) ?_
        refine lv_iload (pc := 86) gX gB dC_endsBefore_86 (lv_at hl 4 rfl) ?_
        refine jv_ri (pc := 88) (wr := [(tA 0, .inr (1, [.ref (tA 1), .ref (tA 9), .ref (tA 10), .ref (tA 11), .ref (tA 12), .ref (tA 13), .ref (tA 14)])), (tA 1, .inl (cG, 7, .inr (.inr (.inr (.inr (rfs [tA 2, tA 3, tA 4, tA 5, tA 6, tA 7, tA 8])))))), (tA 2, .inl (cI, 75, .inl (av pr0))), (tA 3, .inl (cI, 75, .inl (av pr1))), (tA 4, .inl (cI, 75, .inl (av pr2))), (tA 5, .inl (cI, 75, .inl (av pr3))), (tA 6, .inl (cI, 75, .inl (av pr4))), (tA 7, .inl (cI, 75, .inl (av pr5))), (tA 8, .inl (cI, 75, .inl (av pr6))), (tA 9, .inl (cI, 75, .inl (av t1))), (tA 10, .inl (cI, 75, .inl (av t2))), (tA 11, .inl (cZ, 75, .inl (av ex))), (tA 12, .inl (cI, 300, .inl (av pt))), (tA 13, .inl (cI, 75, .inl (av pn))), (tA 14, .inl (cI, 75, .inl (av tc))), (xa, .inr (2, [.ref xi, .int (iv xs)])), (xi, .inl (cI, xn, .inl (av xf)))]) (wn := fun u : Int => (wTR cI cZ cG cR tA pr0 pr1 pr2 pr3 pr4 pr5 pr6 t1 t2 ex pt pn tc xa xi xn xs xf)) (va_runS (rest := []) ⟨gX, gB, hml, hown, hw0⟩ (c_C_isAttached l dC dI cI cZ cG cR  _ r_22 r_32 (by rw [hr22]; exact hc2) (by rw [hr32]; exact hc1)) (jcS hw0 kC_isAttached q212 rfl rfl ⟨Nat.le_trans (Nat.le_of_ble_eq_true rfl) hRf, Nat.le_trans (Nat.le_of_ble_eq_true rfl) hRl⟩) (jv_preS hK hP hD [] rfl (by decide)) rfl rfl hl.1 rfl (lv_room (Nat.le_of_ble_eq_true rfl)) dC_endsBefore_88 ⟨Nat.zero_le _, Nat.zero_le _⟩) hP hD hS hA [] [0, 1, 2, 3, 4, 5, 6, 7, 8, 9, 10, 11, 12, 13, 14, 15, 16] [0, 1, 2, 3, 4, 5, 6, 7, 8, 9, 10, 11, 12, 13, 14, 15, 16] rfl rfl (by decide) (by decide) (by decide) (fun _ => rfl) (fun r0 u H locs hw88 hP hD hS => ?_)
        obtain ⟨r_88, hu⟩ : ∃ z, z = u := ⟨_, rfl⟩; subst hu
        obtain ⟨rfl, hw88⟩ := hw88
        have hat := hw88.2
        refine jv_if_ne (pc := 91) (tgt := 116) gX gB dC_endsBefore_91 (by decide) (by omega) (fun h6 => ?_) (fun h6 => ?_)
        · skip
          exact cut116  _ _ _ (by exact cl_no h50 h67 (Or.inr (Or.inl (by have := hat.mp (by omega); rw [hr22, hr32] at this; exact this)))) (lv_sub hl [0, 1, 2] rfl) hP hD hS
        refine lv_aload_n (pc := 94) gX gB dC_endsBefore_94 rfl (lv_at hl 0 rfl) ?_
        refine lv_aload_n (pc := 95) gX gB dC_endsBefore_95 rfl (lv_at hl 1 rfl) ?_
        refine lv_iload_n (pc := 96) gX gB dC_endsBefore_96 rfl (lv_at hl 2 rfl) ?_
        refine jv_ri (pc := 97) (wr := []) (wn := fun u : Int => (wTR cI cZ cG cR tA pr0 pr1 pr2 pr3 pr4 pr5 pr6 t1 t2 ex pt pn tc xa xi xn xs xf)) (va_runS (rest := []) ⟨gX, gB, hml, hown, hw0⟩ (c_C_isJoinedPicture l dC dI cI cZ cG cR tA pr0 pr1 pr2 pr3 pr4 pr5 pr6 t1 t2 ex pt pn tc xa xi xn xs xf _ i (by omega) (by exact hsx) (by exact hxf) (by exact hp1) (by omega)) (jcS hw0 kC_isJoinedPicture q215 rfl rfl ⟨Nat.le_trans (Nat.le_of_ble_eq_true rfl) hRf, Nat.le_trans (Nat.le_of_ble_eq_true rfl) hRl⟩) (jv_preS hK hP hD [0, 1, 2, 3, 4, 5, 6, 7, 8, 9, 10, 11, 12, 13, 14, 15, 16] rfl (by decide)) rfl rfl hl.1 rfl (lv_room (Nat.le_of_ble_eq_true rfl)) dC_endsBefore_97 ⟨Nat.zero_le _, Nat.zero_le _⟩) hP hD hS hA [0, 1, 2, 3, 4, 5, 6, 7, 8, 9, 10, 11, 12, 13, 14, 15, 16] [] [0, 1, 2, 3, 4, 5, 6, 7, 8, 9, 10, 11, 12, 13, 14, 15, 16] rfl rfl (by decide) (by decide) (by decide) (fun _ => rfl) (fun r0 u H locs hw97 hP hD hS => ?_)
        obtain ⟨r_97, hu⟩ : ∃ z, z = u := ⟨_, rfl⟩; subst hu
        obtain ⟨rfl, hw97⟩ := hw97
        refine jv_if_ne (pc := 100) (tgt := 116) gX gB dC_endsBefore_100 (by decide) (by omega) (fun h7 => ?_) (fun h7 => ?_)
        · skip
          exact cut116  _ _ _ (by exact cl_no h50 h67 (Or.inr (Or.inr (Or.inl (hw97.2.mp (by omega)))))) (lv_sub hl [0, 1, 2] rfl) hP hD hS
        refine lv_aload_n (pc := 103) gX gB dC_endsBefore_103 rfl (lv_at hl 0 rfl) ?_
        refine lv_aload_n (pc := 104) gX gB dC_endsBefore_104 rfl (lv_at hl 1 rfl) ?_
        refine lv_iload_n (pc := 105) gX gB dC_endsBefore_105 rfl (lv_at hl 2 rfl) ?_
        refine jv_ri (pc := 106) (wr := []) (wn := fun u : Int => (wTR cI cZ cG cR tA pr0 pr1 pr2 pr3 pr4 pr5 pr6 t1 t2 ex pt pn tc xa xi xn xs xf)) (va_runS (rest := []) ⟨gX, gB, hml, hown, hw0⟩ (c_C_isSecondRegion l dC dI cI cZ cG cR tA pr0 pr1 pr2 pr3 pr4 pr5 pr6 t1 t2 ex pt pn tc xa xi xn xs xf _ i (by omega) (by exact hsx) (by exact hxf) (by exact hp1) (by omega)) (jcS hw0 kC_isSecondRegion q218 rfl rfl ⟨Nat.le_trans (Nat.le_of_ble_eq_true rfl) hRf, Nat.le_trans (Nat.le_of_ble_eq_true rfl) hRl⟩) (jv_preS hK hP hD [0, 1, 2, 3, 4, 5, 6, 7, 8, 9, 10, 11, 12, 13, 14, 15, 16] rfl (by decide)) rfl rfl hl.1 rfl (lv_room (Nat.le_of_ble_eq_true rfl)) dC_endsBefore_106 ⟨Nat.zero_le _, Nat.zero_le _⟩) hP hD hS hA [0, 1, 2, 3, 4, 5, 6, 7, 8, 9, 10, 11, 12, 13, 14, 15, 16] [] [0, 1, 2, 3, 4, 5, 6, 7, 8, 9, 10, 11, 12, 13, 14, 15, 16] rfl rfl (by decide) (by decide) (by decide) (fun _ => rfl) (fun r0 u H locs hw106 hP hD hS => ?_)
        obtain ⟨r_106, hu⟩ : ∃ z, z = u := ⟨_, rfl⟩; subst hu
        obtain ⟨rfl, hw106⟩ := hw106
        refine jv_if_ne (pc := 109) (tgt := 116) gX gB dC_endsBefore_109 (by decide) (by omega) (fun h8 => ?_) (fun h8 => ?_)
        · skip
          exact cut116  _ _ _ (by exact cl_no h50 h67 (Or.inr (Or.inr (Or.inr (rc_both (by omega) (hw106.2.mp (by omega))))))) (lv_sub hl [0, 1, 2] rfl) hP hD hS
        have h112 : evf pr1 xf i = 1 := cl_yes h50 h67 (by omega) (fun z => by have := hat.mpr (by rw [hr22, hr32]; exact z); omega) (fun z => by have := hw97.2.mpr z; omega) (fun z => by have := hw106.2.mpr ⟨z.2.1, z.2.2⟩; omega)
        refine lv_iconst (pc := 112) (v := iv 1) gX gB dC_endsBefore_112 rfl ?_
        refine lv_goto (pc := 113) (tgt := 117) gX gB dC_endsBefore_113 (by decide) ?_
        exact hret _ (1) dC_endsBefore_117 (Or.inr rfl) ⟨rfl, by first | (refine ⟨Or.inl rfl, ?_⟩; rw [if_neg hnp]; exact h116.symm) | (refine ⟨Or.inr rfl, ?_⟩; rw [if_neg hnp]; exact h112.symm)⟩ hP hD hS
      exact cut65  _ _ _ (by exact Or.inr (by omega)) hl hP hD hS
    refine lv_iload_n (pc := 37) gX gB dC_endsBefore_37 rfl (lv_at hl 1 rfl) ?_
    refine lv_iconst (pc := 38) (v := iv 1) gX gB dC_endsBefore_38 rfl ?_
    refine jv_icmp_ne (pc := 39) (tgt := 50) gX gB dC_endsBefore_39 (by decide) (by omega) (by decide) (fun h9 => ?_) (fun h9 => ?_)
    · skip
      exact cut50  _ _ _ (by exact fun z => by omega) (lv_sub hl [2, 3, 4, 1, 0] rfl) hP hD hS
    refine lv_iload (pc := 42) gX gB dC_endsBefore_42 (lv_at hl 0 rfl) ?_
    refine lv_iconst (pc := 44) (v := iv 2) gX gB dC_endsBefore_44 rfl ?_
    refine jv_icmp_ne (pc := 45) (tgt := 50) gX gB dC_endsBefore_45 (by decide) (by omega) (by decide) (fun h10 => ?_) (fun h10 => ?_)
    · skip
      exact cut50  _ _ _ (by exact fun z => by omega) (lv_sub hl [2, 3, 4, 1, 0] rfl) hP hD hS
    refine lv_iconst (pc := 48) (v := iv 0) gX gB dC_endsBefore_48 rfl ?_
    exact hret _ (0) dC_endsBefore_49 (Or.inl rfl) ⟨rfl, by refine ⟨Or.inl rfl, ?_⟩; rw [if_neg hnp]; unfold evf; rw [if_pos ⟨by omega, by omega⟩]⟩ hP hD hS
  exact cut12  _ _ _ (by exact Or.inr (by omega)) hl hP hD hS
