set_option maxRecDepth 100000 in
set_option maxHeartbeats 1000000 in
theorem c_T_isSettable (l : Launch) (dC : Nat → ClassId) (dI : Nat → Nat → Nat) (cI : ClassId) (cZ : ClassId) (cG : ClassId) (cR : ClassId)  (sz : Nat) (c : Int) (hc : -2147483648 ≤ c ∧ c < 2147483648) : Met l yT_isSettable wsT_isSettable ({ frames := 0, cells := 0, slots := 0, locals := 0 }) (va_Pc [.int (iv c)] (jPre (dC, dI) (jT cI cZ cG cR) (wE cI cZ cG cR) sz)) (va_Qi (fun (r0 : Int32) (u : Int) => r0 = iv u ∧ ((u = 0 ∨ u = 1) ∧ (u = 1 ↔ (0 ≤ c ∧ c < 40)))) (fun u => jEnd (dC, dI) (jT cI cZ cG cR) (va_A (wE cI cZ cG cR) sz) (wE cI cZ cG cR)) (va_A (wE cI cZ cG cR) sz)) 0 0 (va_A (wE cI cZ cG cR) sz) := by
  refine jv_mz (cc := cT_isSettable) (maxL := 1) (by decide) rfl (Nat.le_of_ble_eq_true rfl) ?_
  intro p0 e0 s0 m0 a0 b0 t0 c0 R0 Q0 A0 ls gX gB hts hown hml hRf hRl hA hK hret hl hP hD hS
  have hown : s0.vm.findClass "TextPipeline$Table" = some m0.cls := hown
  have hw0 : ∀ w ∈ WS0, w.before a0 s0 = true := fun w h => hts w (List.mem_cons_of_mem _ h)
  have hl : lv_has ls 1 [(0, .int (iv c))] := hl
  have hRf : 0 ≤ R0.frames := hRf
  have hRl : 0 ≤ R0.locals := hRl
  refine lv_iload_n (pc := 0) gX gB dT_isSettable_0 rfl (lv_at hl 0 rfl) ?_
  refine jv_if_lt (pc := 1) (tgt := 14) gX gB dT_isSettable_1 (by decide) (by omega) (fun h1 => ?_) (fun h1 => ?_)
  · skip
    refine lv_iconst (pc := 14) (v := iv 0) gX gB dT_isSettable_14 rfl ?_
    exact hret _ (0) dT_isSettable_15 (Or.inl rfl) ⟨rfl, by omega⟩ hP hD hS
  refine lv_iload_n (pc := 4) gX gB dT_isSettable_4 rfl (lv_at hl 0 rfl) ?_
  refine lv_bipush (pc := 5) (v := iv 40) gX gB dT_isSettable_5 (by decide) ?_
  refine jv_icmp_ge (pc := 7) (tgt := 14) gX gB dT_isSettable_7 (by decide) (by omega) (by decide) (fun h2 => ?_) (fun h2 => ?_)
  · skip
    refine lv_iconst (pc := 14) (v := iv 0) gX gB dT_isSettable_14 rfl ?_
    exact hret _ (0) dT_isSettable_15 (Or.inl rfl) ⟨rfl, by omega⟩ hP hD hS
  refine lv_iconst (pc := 10) (v := iv 1) gX gB dT_isSettable_10 rfl ?_
  refine lv_goto (pc := 11) (tgt := 15) gX gB dT_isSettable_11 (by decide) ?_
  exact hret _ (1) dT_isSettable_15 (Or.inr rfl) ⟨rfl, by omega⟩ hP hD hS
set_option maxRecDepth 100000 in
set_option maxHeartbeats 1000000 in
theorem c_T_isParting (l : Launch) (dC : Nat → ClassId) (dI : Nat → Nat → Nat) (cI : ClassId) (cZ : ClassId) (cG : ClassId) (cR : ClassId)  (sz : Nat) (c : Int) (a : Int) (b : Int) (hc : -2147483648 ≤ c ∧ c < 2147483648) (ha : -2147483648 ≤ a ∧ a < 2147483648) (hb9 : -2147483648 ≤ b ∧ b < 2147483648) : Met l yT_isParting wsT_isParting ({ frames := 1, cells := 0, slots := 0, locals := 20 }) (va_Pc [.int (iv c), .int (iv a), .int (iv b)] (jPre (dC, dI) (jT cI cZ cG cR) (wE cI cZ cG cR) sz)) (va_Qi (fun (r0 : Int32) (u : Int) => r0 = iv u ∧ ((u = 0 ∨ u = 1) ∧ (u = 1 ↔ (partOK c a b)))) (fun u => jEnd (dC, dI) (jT cI cZ cG cR) (va_A (wE cI cZ cG cR) sz) (wE cI cZ cG cR)) (va_A (wE cI cZ cG cR) sz)) 0 0 (va_A (wE cI cZ cG cR) sz) := by
  refine jv_mz (cc := cT_isParting) (maxL := 3) (by decide) rfl (Nat.le_of_ble_eq_true rfl) ?_
  intro p0 e0 s0 m0 a0 b0 t0 c0 R0 Q0 A0 ls gX gB hts hown hml hRf hRl hA hK hret hl hP hD hS
  have hown : s0.vm.findClass "TextPipeline$Table" = some m0.cls := hown
  have hw0 : ∀ w ∈ WS0, w.before a0 s0 = true := fun w h => hts w (List.mem_cons_of_mem _ h)
  have hl : lv_has ls 3 [(0, .int (iv c)), (1, .int (iv a)), (2, .int (iv b))] := hl
  have hRf : 1 ≤ R0.frames := hRf
  have hRl : 20 ≤ R0.locals := hRl
  have cut27 : ∀ (ls : Array Slot) (H : Heap) (locs : List Loc), (¬ partOK c a b) → lv_has ls 3 [(0, .int (iv c)), (1, .int (iv a)), (2, .int (iv b))] → va_P (dC, dI) vwCl (wE cI cZ cG cR) H → va_D A0 (wE cI cZ cG cR) → va_S A0 s0.heap H locs → W p0 l e0 R0 s0 m0 a0 b0 t0 c0 H locs 0 0 Q0 (F0 m0 27 ls []) := by
    intro  ls H locs h27 hl hP hD hS
    refine lv_iconst (pc := 27) (v := iv 0) gX gB dT_isParting_27 rfl ?_
    exact hret _ (0) dT_isParting_28 (Or.inl rfl) ⟨rfl, by exact ⟨Or.inl rfl, ⟨fun z => by omega, fun z => absurd z h27⟩⟩⟩ hP hD hS
  refine lv_iload_n (pc := 0) gX gB dT_isParting_0 rfl (lv_at hl 0 rfl) ?_
  refine jv_ri (pc := 1) (wr := []) (wn := fun u : Int => (wE cI cZ cG cR)) (va_runS (rest := []) ⟨gX, gB, hml, hown, hw0⟩ (c_T_isSettable l dC dI cI cZ cG cR  _ c (by omega)) (jcS hw0 kT_isSettable q363 rfl rfl ⟨Nat.le_trans (Nat.le_of_ble_eq_true rfl) hRf, Nat.le_trans (Nat.le_of_ble_eq_true rfl) hRl⟩) (jv_preS hK hP hD [] rfl (by decide)) rfl rfl hl.1 rfl (lv_room (Nat.le_of_ble_eq_true rfl)) dT_isParting_1 ⟨Nat.zero_le _, Nat.zero_le _⟩) hP hD hS hA [] [] [] rfl rfl (by decide) (by decide) (by decide) (fun _ => rfl) (fun r0 u H locs hw1 hP hD hS => ?_)
  obtain ⟨r_1, hu⟩ : ∃ z, z = u := ⟨_, rfl⟩; subst hu
  obtain ⟨rfl, hw1⟩ := hw1
  refine jv_if_eq (pc := 4) (tgt := 27) gX gB dT_isParting_4 (by decide) (by omega) (fun h1 => ?_) (fun h1 => ?_)
  · skip
    exact cut27  _ _ _ (by unfold partOK; omega) hl hP hD hS
  refine lv_iload_n (pc := 7) gX gB dT_isParting_7 rfl (lv_at hl 1 rfl) ?_
  refine lv_iconst (pc := 8) (v := iv (-1)) gX gB dT_isParting_8 rfl ?_
  refine jv_icmp_lt (pc := 9) (tgt := 27) gX gB dT_isParting_9 (by decide) (by omega) (by decide) (fun h2 => ?_) (fun h2 => ?_)
  · skip
    exact cut27  _ _ _ (by unfold partOK; omega) hl hP hD hS
  refine lv_iload_n (pc := 12) gX gB dT_isParting_12 rfl (lv_at hl 1 rfl) ?_
  refine lv_iload_n (pc := 13) gX gB dT_isParting_13 rfl (lv_at hl 0 rfl) ?_
  refine jv_icmp_ge (pc := 14) (tgt := 27) gX gB dT_isParting_14 (by decide) (by omega) (by omega) (fun h3 => ?_) (fun h3 => ?_)
  · skip
    exact cut27  _ _ _ (by unfold partOK; omega) hl hP hD hS
  refine lv_iload_n (pc := 17) gX gB dT_isParting_17 rfl (lv_at hl 2 rfl) ?_
  refine lv_iconst (pc := 18) (v := iv (-1)) gX gB dT_isParting_18 rfl ?_
  refine jv_icmp_lt (pc := 19) (tgt := 27) gX gB dT_isParting_19 (by decide) (by omega) (by decide) (fun h4 => ?_) (fun h4 => ?_)
  · skip
    exact cut27  _ _ _ (by unfold partOK; omega) hl hP hD hS
  refine lv_iload_n (pc := 22) gX gB dT_isParting_22 rfl (lv_at hl 2 rfl) ?_
  refine lv_iload_n (pc := 23) gX gB dT_isParting_23 rfl (lv_at hl 0 rfl) ?_
  refine jv_icmp_lt (pc := 24) (tgt := 29) gX gB dT_isParting_24 (by decide) (by omega) (by omega) (fun h5 => ?_) (fun h5 => ?_)
  · skip
    refine lv_iload_n (pc := 29) gX gB dT_isParting_29 rfl (lv_at hl 1 rfl) ?_
    refine lv_iconst (pc := 30) (v := iv (-1)) gX gB dT_isParting_30 rfl ?_
    refine jv_icmp_ne (pc := 31) (tgt := 39) gX gB dT_isParting_31 (by decide) (by omega) (by decide) (fun h6 => ?_) (fun h6 => ?_)
    · skip
      refine lv_iconst (pc := 39) (v := iv 1) gX gB dT_isParting_39 rfl ?_
      refine lv_goto (pc := 40) (tgt := 44) gX gB dT_isParting_40 (by decide) ?_
      exact hret _ (1) dT_isParting_44 (Or.inr rfl) ⟨rfl, by first | exact ⟨Or.inr rfl, ⟨fun _ => by unfold partOK; omega, fun _ => rfl⟩⟩ | exact ⟨Or.inl rfl, ⟨fun z => by omega, fun z => by unfold partOK at z; omega⟩⟩⟩ hP hD hS
    refine lv_iload_n (pc := 34) gX gB dT_isParting_34 rfl (lv_at hl 2 rfl) ?_
    refine lv_iconst (pc := 35) (v := iv (-1)) gX gB dT_isParting_35 rfl ?_
    refine jv_icmp_ne (pc := 36) (tgt := 43) gX gB dT_isParting_36 (by decide) (by omega) (by decide) (fun h7 => ?_) (fun h7 => ?_)
    · skip
      refine lv_iconst (pc := 43) (v := iv 0) gX gB dT_isParting_43 rfl ?_
      exact hret _ (0) dT_isParting_44 (Or.inl rfl) ⟨rfl, by first | exact ⟨Or.inr rfl, ⟨fun _ => by unfold partOK; omega, fun _ => rfl⟩⟩ | exact ⟨Or.inl rfl, ⟨fun z => by omega, fun z => by unfold partOK at z; omega⟩⟩⟩ hP hD hS
    refine lv_iconst (pc := 39) (v := iv 1) gX gB dT_isParting_39 rfl ?_
    refine lv_goto (pc := 40) (tgt := 44) gX gB dT_isParting_40 (by decide) ?_
    exact hret _ (1) dT_isParting_44 (Or.inr rfl) ⟨rfl, by first | exact ⟨Or.inr rfl, ⟨fun _ => by unfold partOK; omega, fun _ => rfl⟩⟩ | exact ⟨Or.inl rfl, ⟨fun z => by omega, fun z => by unfold partOK at z; omega⟩⟩⟩ hP hD hS
  exact cut27  _ _ _ (by unfold partOK; omega) hl hP hD hS
set_option maxRecDepth 100000 in
set_option maxHeartbeats 1000000 in
theorem c_T_isLead (l : Launch) (dC : Nat → ClassId) (dI : Nat → Nat → Nat) (cI : ClassId) (cZ : ClassId) (cG : ClassId) (cR : ClassId)  (sz : Nat) (c : Int) (hc : 0 ≤ c ∧ c < 75) : Met l yT_isLead wsT_isLead ({ frames := 0, cells := 0, slots := 0, locals := 0 }) (va_Pc [.int (iv c)] (jPre (dC, dI) (jT cI cZ cG cR) (wE cI cZ cG cR) sz)) (va_Qi (fun (r0 : Int32) (u : Int) => r0 = iv u ∧ ((u = 0 ∨ u = 1) ∧ (u = 1 ↔ (40 ≤ c ∧ c < 43)))) (fun u => jEnd (dC, dI) (jT cI cZ cG cR) (va_A (wE cI cZ cG cR) sz) (wE cI cZ cG cR)) (va_A (wE cI cZ cG cR) sz)) 0 0 (va_A (wE cI cZ cG cR) sz) := by
  refine jv_mz (cc := cT_isLead) (maxL := 1) (by decide) rfl (Nat.le_of_ble_eq_true rfl) ?_
  intro p0 e0 s0 m0 a0 b0 t0 c0 R0 Q0 A0 ls gX gB hts hown hml hRf hRl hA hK hret hl hP hD hS
  have hown : s0.vm.findClass "TextPipeline$Table" = some m0.cls := hown
  have hw0 : ∀ w ∈ WS0, w.before a0 s0 = true := fun w h => hts w (List.mem_cons_of_mem _ h)
  have hl : lv_has ls 1 [(0, .int (iv c))] := hl
  have hRf : 0 ≤ R0.frames := hRf
  have hRl : 0 ≤ R0.locals := hRl
  refine lv_iload_n (pc := 0) gX gB dT_isLead_0 rfl (lv_at hl 0 rfl) ?_
  refine lv_bipush (pc := 1) (v := iv 40) gX gB dT_isLead_1 (by decide) ?_
  refine jv_icmp_lt (pc := 3) (tgt := 16) gX gB dT_isLead_3 (by decide) (by omega) (by decide) (fun h1 => ?_) (fun h1 => ?_)
  · skip
    refine lv_iconst (pc := 16) (v := iv 0) gX gB dT_isLead_16 rfl ?_
    exact hret _ (0) dT_isLead_17 (Or.inl rfl) ⟨rfl, by omega⟩ hP hD hS
  refine lv_iload_n (pc := 6) gX gB dT_isLead_6 rfl (lv_at hl 0 rfl) ?_
  refine lv_bipush (pc := 7) (v := iv 43) gX gB dT_isLead_7 (by decide) ?_
  refine jv_icmp_ge (pc := 9) (tgt := 16) gX gB dT_isLead_9 (by decide) (by omega) (by decide) (fun h2 => ?_) (fun h2 => ?_)
  · skip
    refine lv_iconst (pc := 16) (v := iv 0) gX gB dT_isLead_16 rfl ?_
    exact hret _ (0) dT_isLead_17 (Or.inl rfl) ⟨rfl, by omega⟩ hP hD hS
  refine lv_iconst (pc := 12) (v := iv 1) gX gB dT_isLead_12 rfl ?_
  refine lv_goto (pc := 13) (tgt := 17) gX gB dT_isLead_13 (by decide) ?_
  exact hret _ (1) dT_isLead_17 (Or.inr rfl) ⟨rfl, by omega⟩ hP hD hS
set_option maxRecDepth 100000 in
set_option maxHeartbeats 1000000 in
theorem c_T_isVowel (l : Launch) (dC : Nat → ClassId) (dI : Nat → Nat → Nat) (cI : ClassId) (cZ : ClassId) (cG : ClassId) (cR : ClassId)  (sz : Nat) (c : Int) (hc : 0 ≤ c ∧ c < 75) : Met l yT_isVowel wsT_isVowel ({ frames := 0, cells := 0, slots := 0, locals := 0 }) (va_Pc [.int (iv c)] (jPre (dC, dI) (jT cI cZ cG cR) (wE cI cZ cG cR) sz)) (va_Qi (fun (r0 : Int32) (u : Int) => r0 = iv u ∧ ((u = 0 ∨ u = 1) ∧ (u = 1 ↔ (43 ≤ c ∧ c < 46)))) (fun u => jEnd (dC, dI) (jT cI cZ cG cR) (va_A (wE cI cZ cG cR) sz) (wE cI cZ cG cR)) (va_A (wE cI cZ cG cR) sz)) 0 0 (va_A (wE cI cZ cG cR) sz) := by
  refine jv_mz (cc := cT_isVowel) (maxL := 1) (by decide) rfl (Nat.le_of_ble_eq_true rfl) ?_
  intro p0 e0 s0 m0 a0 b0 t0 c0 R0 Q0 A0 ls gX gB hts hown hml hRf hRl hA hK hret hl hP hD hS
  have hown : s0.vm.findClass "TextPipeline$Table" = some m0.cls := hown
  have hw0 : ∀ w ∈ WS0, w.before a0 s0 = true := fun w h => hts w (List.mem_cons_of_mem _ h)
  have hl : lv_has ls 1 [(0, .int (iv c))] := hl
  have hRf : 0 ≤ R0.frames := hRf
  have hRl : 0 ≤ R0.locals := hRl
  refine lv_iload_n (pc := 0) gX gB dT_isVowel_0 rfl (lv_at hl 0 rfl) ?_
  refine lv_bipush (pc := 1) (v := iv 43) gX gB dT_isVowel_1 (by decide) ?_
  refine jv_icmp_lt (pc := 3) (tgt := 16) gX gB dT_isVowel_3 (by decide) (by omega) (by decide) (fun h1 => ?_) (fun h1 => ?_)
  · skip
    refine lv_iconst (pc := 16) (v := iv 0) gX gB dT_isVowel_16 rfl ?_
    exact hret _ (0) dT_isVowel_17 (Or.inl rfl) ⟨rfl, by omega⟩ hP hD hS
  refine lv_iload_n (pc := 6) gX gB dT_isVowel_6 rfl (lv_at hl 0 rfl) ?_
  refine lv_bipush (pc := 7) (v := iv 46) gX gB dT_isVowel_7 (by decide) ?_
  refine jv_icmp_ge (pc := 9) (tgt := 16) gX gB dT_isVowel_9 (by decide) (by omega) (by decide) (fun h2 => ?_) (fun h2 => ?_)
  · skip
    refine lv_iconst (pc := 16) (v := iv 0) gX gB dT_isVowel_16 rfl ?_
    exact hret _ (0) dT_isVowel_17 (Or.inl rfl) ⟨rfl, by omega⟩ hP hD hS
  refine lv_iconst (pc := 12) (v := iv 1) gX gB dT_isVowel_12 rfl ?_
  refine lv_goto (pc := 13) (tgt := 17) gX gB dT_isVowel_13 (by decide) ?_
  exact hret _ (1) dT_isVowel_17 (Or.inr rfl) ⟨rfl, by omega⟩ hP hD hS
set_option maxRecDepth 100000 in
set_option maxHeartbeats 1000000 in
theorem c_T_isTail (l : Launch) (dC : Nat → ClassId) (dI : Nat → Nat → Nat) (cI : ClassId) (cZ : ClassId) (cG : ClassId) (cR : ClassId)  (sz : Nat) (c : Int) (hc : 0 ≤ c ∧ c < 75) : Met l yT_isTail wsT_isTail ({ frames := 0, cells := 0, slots := 0, locals := 0 }) (va_Pc [.int (iv c)] (jPre (dC, dI) (jT cI cZ cG cR) (wE cI cZ cG cR) sz)) (va_Qi (fun (r0 : Int32) (u : Int) => r0 = iv u ∧ ((u = 0 ∨ u = 1) ∧ (u = 1 ↔ (46 ≤ c ∧ c < 48)))) (fun u => jEnd (dC, dI) (jT cI cZ cG cR) (va_A (wE cI cZ cG cR) sz) (wE cI cZ cG cR)) (va_A (wE cI cZ cG cR) sz)) 0 0 (va_A (wE cI cZ cG cR) sz) := by
  refine jv_mz (cc := cT_isTail) (maxL := 1) (by decide) rfl (Nat.le_of_ble_eq_true rfl) ?_
  intro p0 e0 s0 m0 a0 b0 t0 c0 R0 Q0 A0 ls gX gB hts hown hml hRf hRl hA hK hret hl hP hD hS
  have hown : s0.vm.findClass "TextPipeline$Table" = some m0.cls := hown
  have hw0 : ∀ w ∈ WS0, w.before a0 s0 = true := fun w h => hts w (List.mem_cons_of_mem _ h)
  have hl : lv_has ls 1 [(0, .int (iv c))] := hl
  have hRf : 0 ≤ R0.frames := hRf
  have hRl : 0 ≤ R0.locals := hRl
  refine lv_iload_n (pc := 0) gX gB dT_isTail_0 rfl (lv_at hl 0 rfl) ?_
  refine lv_bipush (pc := 1) (v := iv 46) gX gB dT_isTail_1 (by decide) ?_
  refine jv_icmp_lt (pc := 3) (tgt := 16) gX gB dT_isTail_3 (by decide) (by omega) (by decide) (fun h1 => ?_) (fun h1 => ?_)
  · skip
    refine lv_iconst (pc := 16) (v := iv 0) gX gB dT_isTail_16 rfl ?_
    exact hret _ (0) dT_isTail_17 (Or.inl rfl) ⟨rfl, by omega⟩ hP hD hS
  refine lv_iload_n (pc := 6) gX gB dT_isTail_6 rfl (lv_at hl 0 rfl) ?_
  refine lv_bipush (pc := 7) (v := iv 48) gX gB dT_isTail_7 (by decide) ?_
  refine jv_icmp_ge (pc := 9) (tgt := 16) gX gB dT_isTail_9 (by decide) (by omega) (by decide) (fun h2 => ?_) (fun h2 => ?_)
  · skip
    refine lv_iconst (pc := 16) (v := iv 0) gX gB dT_isTail_16 rfl ?_
    exact hret _ (0) dT_isTail_17 (Or.inl rfl) ⟨rfl, by omega⟩ hP hD hS
  refine lv_iconst (pc := 12) (v := iv 1) gX gB dT_isTail_12 rfl ?_
  refine lv_goto (pc := 13) (tgt := 17) gX gB dT_isTail_13 (by decide) ?_
  exact hret _ (1) dT_isTail_17 (Or.inr rfl) ⟨rfl, by omega⟩ hP hD hS
set_option maxRecDepth 100000 in
set_option maxHeartbeats 1000000 in
theorem c_T_isSyllable (l : Launch) (dC : Nat → ClassId) (dI : Nat → Nat → Nat) (cI : ClassId) (cZ : ClassId) (cG : ClassId) (cR : ClassId)  (sz : Nat) (c : Int) (hc : 0 ≤ c ∧ c < 75) : Met l yT_isSyllable wsT_isSyllable ({ frames := 0, cells := 0, slots := 0, locals := 0 }) (va_Pc [.int (iv c)] (jPre (dC, dI) (jT cI cZ cG cR) (wE cI cZ cG cR) sz)) (va_Qi (fun (r0 : Int32) (u : Int) => r0 = iv u ∧ ((u = 0 ∨ u = 1) ∧ (u = 1 ↔ (48 ≤ c)))) (fun u => jEnd (dC, dI) (jT cI cZ cG cR) (va_A (wE cI cZ cG cR) sz) (wE cI cZ cG cR)) (va_A (wE cI cZ cG cR) sz)) 0 0 (va_A (wE cI cZ cG cR) sz) := by
  refine jv_mz (cc := cT_isSyllable) (maxL := 1) (by decide) rfl (Nat.le_of_ble_eq_true rfl) ?_
  intro p0 e0 s0 m0 a0 b0 t0 c0 R0 Q0 A0 ls gX gB hts hown hml hRf hRl hA hK hret hl hP hD hS
  have hown : s0.vm.findClass "TextPipeline$Table" = some m0.cls := hown
  have hw0 : ∀ w ∈ WS0, w.before a0 s0 = true := fun w h => hts w (List.mem_cons_of_mem _ h)
  have hl : lv_has ls 1 [(0, .int (iv c))] := hl
  have hRf : 0 ≤ R0.frames := hRf
  have hRl : 0 ≤ R0.locals := hRl
  refine lv_iload_n (pc := 0) gX gB dT_isSyllable_0 rfl (lv_at hl 0 rfl) ?_
  refine lv_bipush (pc := 1) (v := iv 48) gX gB dT_isSyllable_1 (by decide) ?_
  refine jv_icmp_lt (pc := 3) (tgt := 10) gX gB dT_isSyllable_3 (by decide) (by omega) (by decide) (fun h1 => ?_) (fun h1 => ?_)
  · skip
    refine lv_iconst (pc := 10) (v := iv 0) gX gB dT_isSyllable_10 rfl ?_
    exact hret _ (0) dT_isSyllable_11 (Or.inl rfl) ⟨rfl, by omega⟩ hP hD hS
  refine lv_iconst (pc := 6) (v := iv 1) gX gB dT_isSyllable_6 rfl ?_
  refine lv_goto (pc := 7) (tgt := 11) gX gB dT_isSyllable_7 (by decide) ?_
  exact hret _ (1) dT_isSyllable_11 (Or.inr rfl) ⟨rfl, by omega⟩ hP hD hS
set_option maxRecDepth 100000 in
set_option maxHeartbeats 1000000 in
theorem c_T_hasTail (l : Launch) (dC : Nat → ClassId) (dI : Nat → Nat → Nat) (cI : ClassId) (cZ : ClassId) (cG : ClassId) (cR : ClassId)  (sz : Nat) (c : Int) (hc : 0 ≤ c ∧ c < 75) : Met l yT_hasTail wsT_hasTail ({ frames := 1, cells := 0, slots := 0, locals := 20 }) (va_Pc [.int (iv c)] (jPre (dC, dI) (jT cI cZ cG cR) (wE cI cZ cG cR) sz)) (va_Qi (fun (r0 : Int32) (u : Int) => r0 = iv u ∧ ((u = 0 ∨ u = 1) ∧ (u = 1 ↔ (47 < c ∧ c % 3 ≠ 0)))) (fun u => jEnd (dC, dI) (jT cI cZ cG cR) (va_A (wE cI cZ cG cR) sz) (wE cI cZ cG cR)) (va_A (wE cI cZ cG cR) sz)) 0 0 (va_A (wE cI cZ cG cR) sz) := by
  refine jv_mz (cc := cT_hasTail) (maxL := 1) (by decide) rfl (Nat.le_of_ble_eq_true rfl) ?_
  intro p0 e0 s0 m0 a0 b0 t0 c0 R0 Q0 A0 ls gX gB hts hown hml hRf hRl hA hK hret hl hP hD hS
  have hown : s0.vm.findClass "TextPipeline$Table" = some m0.cls := hown
  have hw0 : ∀ w ∈ WS0, w.before a0 s0 = true := fun w h => hts w (List.mem_cons_of_mem _ h)
  have hl : lv_has ls 1 [(0, .int (iv c))] := hl
  have hRf : 1 ≤ R0.frames := hRf
  have hRl : 20 ≤ R0.locals := hRl
  refine lv_iload_n (pc := 0) gX gB dT_hasTail_0 rfl (lv_at hl 0 rfl) ?_
  refine jv_ri (pc := 1) (wr := []) (wn := fun u : Int => (wE cI cZ cG cR)) (va_runS (rest := []) ⟨gX, gB, hml, hown, hw0⟩ (c_T_isSyllable l dC dI cI cZ cG cR  _ c (by omega)) (jcS hw0 kT_isSyllable q208 rfl rfl ⟨Nat.le_trans (Nat.le_of_ble_eq_true rfl) hRf, Nat.le_trans (Nat.le_of_ble_eq_true rfl) hRl⟩) (jv_preS hK hP hD [] rfl (by decide)) rfl rfl hl.1 rfl (lv_room (Nat.le_of_ble_eq_true rfl)) dT_hasTail_1 ⟨Nat.zero_le _, Nat.zero_le _⟩) hP hD hS hA [] [] [] rfl rfl (by decide) (by decide) (by decide) (fun _ => rfl) (fun r0 u H locs hw1 hP hD hS => ?_)
  obtain ⟨r_1, hu⟩ : ∃ z, z = u := ⟨_, rfl⟩; subst hu
  obtain ⟨rfl, hw1⟩ := hw1
  refine jv_if_eq (pc := 4) (tgt := 20) gX gB dT_hasTail_4 (by decide) (by omega) (fun h1 => ?_) (fun h1 => ?_)
  · skip
    refine lv_iconst (pc := 20) (v := iv 0) gX gB dT_hasTail_20 rfl ?_
    exact hret _ (0) dT_hasTail_21 (Or.inl rfl) ⟨rfl, by omega⟩ hP hD hS
  refine lv_iload_n (pc := 7) gX gB dT_hasTail_7 rfl (lv_at hl 0 rfl) ?_
  refine lv_bipush (pc := 8) (v := iv 48) gX gB dT_hasTail_8 (by decide) ?_
  refine jv_isub (pc := 10) (x := c) (y := 48) gX gB dT_hasTail_10 ?_
  refine lv_iconst (pc := 11) (v := iv 3) gX gB dT_hasTail_11 rfl ?_
  refine jv_irem (pc := 12) (x := c - 48) (y := 3) gX gB dT_hasTail_12 (by omega) (by omega) ?_
  refine jv_if_eq (pc := 13) (tgt := 20) gX gB dT_hasTail_13 (by decide) (by omega) (fun h2 => ?_) (fun h2 => ?_)
  · skip
    refine lv_iconst (pc := 20) (v := iv 0) gX gB dT_hasTail_20 rfl ?_
    exact hret _ (0) dT_hasTail_21 (Or.inl rfl) ⟨rfl, by omega⟩ hP hD hS
  refine lv_iconst (pc := 16) (v := iv 1) gX gB dT_hasTail_16 rfl ?_
  refine lv_goto (pc := 17) (tgt := 21) gX gB dT_hasTail_17 (by decide) ?_
  exact hret _ (1) dT_hasTail_21 (Or.inr rfl) ⟨rfl, by omega⟩ hP hD hS
set_option maxRecDepth 100000 in
set_option maxHeartbeats 1000000 in
theorem c_T_change (l : Launch) (dC : Nat → ClassId) (dI : Nat → Nat → Nat) (cI : ClassId) (cZ : ClassId) (cG : ClassId) (cR : ClassId) (tA : Nat → Nat) (pr0 : Int → Int) (pr1 : Int → Int) (pr2 : Int → Int) (pr3 : Int → Int) (pr4 : Int → Int) (pr5 : Int → Int) (pr6 : Int → Int) (t1 : Int → Int) (t2 : Int → Int) (ex : Int → Int) (pt : Int → Int) (pn : Int → Int) (tc : Int → Int) (sz : Nat) (c : Int) (w : Int) (v : Int) (hc : 0 ≤ c ∧ c < 75) (hw9 : 0 ≤ w ∧ w < 7) : Met l yT_change wsT_change ({ frames := 0, cells := 0, slots := 0, locals := 0 }) (va_Pc [.ref (tA 0), .int (iv c), .int (iv w), .int (iv v)] (jPre (dC, dI) (jT cI cZ cG cR) (wT cI cZ cG cR tA pr0 pr1 pr2 pr3 pr4 pr5 pr6 t1 t2 ex pt pn tc) sz)) (va_Qv (fun u : (Int → Int) × (Int → Int) × (Int → Int) × (Int → Int) × (Int → Int) × (Int → Int) × (Int → Int) => u.1 = (if w = 0 then uI pr0 c v else pr0) ∧ u.2.1 = (if w = 1 then uI pr1 c v else pr1) ∧ u.2.2.1 = (if w = 2 then uI pr2 c v else pr2) ∧ u.2.2.2.1 = (if w = 3 then uI pr3 c v else pr3) ∧ u.2.2.2.2.1 = (if w = 4 then uI pr4 c v else pr4) ∧ u.2.2.2.2.2.1 = (if w = 5 then uI pr5 c v else pr5) ∧ u.2.2.2.2.2.2 = (if w = 6 then uI pr6 c v else pr6)) (fun u => jEnd (dC, dI) (jT cI cZ cG cR) (va_A (wT cI cZ cG cR tA pr0 pr1 pr2 pr3 pr4 pr5 pr6 t1 t2 ex pt pn tc) sz) (wT cI cZ cG cR tA u.1 u.2.1 u.2.2.1 u.2.2.2.1 u.2.2.2.2.1 u.2.2.2.2.2.1 u.2.2.2.2.2.2 t1 t2 ex pt pn tc)) (va_A (wT cI cZ cG cR tA pr0 pr1 pr2 pr3 pr4 pr5 pr6 t1 t2 ex pt pn tc) sz)) 0 0 (va_A (wT cI cZ cG cR tA pr0 pr1 pr2 pr3 pr4 pr5 pr6 t1 t2 ex pt pn tc) sz) := by
  refine jv_mv (cc := cT_change) (maxL := 4) (by decide) rfl (Nat.le_of_ble_eq_true rfl) ?_
  intro p0 e0 s0 m0 a0 b0 t0 c0 R0 Q0 A0 ls gX gB hts hown hml hRf hRl hA hK hret hl hP hD hS
  have hown : s0.vm.findClass "TextPipeline$Table" = some m0.cls := hown
  have hw0 : ∀ w ∈ WS0, w.before a0 s0 = true := fun w h => hts w (List.mem_cons_of_mem _ h)
  have hl : lv_has ls 4 [(0, .ref (tA 0)), (1, .int (iv c)), (2, .int (iv w)), (3, .int (iv v))] := hl
  have hRf : 0 ≤ R0.frames := hRf
  have hRl : 0 ≤ R0.locals := hRl
  refine lv_aload_n (pc := 0) gX gB dT_change_0 rfl (lv_at hl 0 rfl) ?_
  refine va_get (pc := 1) (D := (dC, dI)) (ci := 1) (v := .ref (tA 1)) (C := RT) (T := TT) (N := 7) gX gB hw0 inT hown hK hP 0 rfl rfl 0 (by decide) (hw0 _ q64) (fun _ h9 => h9) rfl dT_change_1 ?_
  refine lv_iload_n (pc := 4) gX gB dT_change_4 rfl (lv_at hl 2 rfl) ?_
  rcases (show w = 0 ∨ w = 1 ∨ w = 2 ∨ w = 3 ∨ w = 4 ∨ w = 5 ∨ w = 6 by omega) with h1 | h1 | h1 | h1 | h1 | h1 | h1
  · subst h1
    refine jv_aald (pc := 5) (v := tA 2) gX gB hK hP 1 2 rfl rfl rfl (by decide) (by decide) rfl dT_change_5 ?_
    refine lv_iload_n (pc := 6) gX gB dT_change_6 rfl (lv_at hl 1 rfl) ?_
    refine lv_iload_n (pc := 7) gX gB dT_change_7 rfl (lv_at hl 3 rfl) ?_
    refine jv_iast (pc := 8) (ws' := (wT cI cZ cG cR tA (uI pr0 c v) pr1 pr2 pr3 pr4 pr5 pr6 t1 t2 ex pt pn tc)) gX gB hK hP hD hS 2 0 rfl rfl (by decide) (by omega) dT_change_8 rfl (fun H locs hP hD hS => ?_)
    exact hret ((uI pr0 c v), pr1, pr2, pr3, pr4, pr5, pr6) dT_change_9 (by first | (dsimp only; simp) | (simp)) hP hD hS
  · subst h1
    refine jv_aald (pc := 5) (v := tA 3) gX gB hK hP 1 2 rfl rfl rfl (by decide) (by decide) rfl dT_change_5 ?_
    refine lv_iload_n (pc := 6) gX gB dT_change_6 rfl (lv_at hl 1 rfl) ?_
    refine lv_iload_n (pc := 7) gX gB dT_change_7 rfl (lv_at hl 3 rfl) ?_
    refine jv_iast (pc := 8) (ws' := (wT cI cZ cG cR tA pr0 (uI pr1 c v) pr2 pr3 pr4 pr5 pr6 t1 t2 ex pt pn tc)) gX gB hK hP hD hS 3 0 rfl rfl (by decide) (by omega) dT_change_8 rfl (fun H locs hP hD hS => ?_)
    exact hret (pr0, (uI pr1 c v), pr2, pr3, pr4, pr5, pr6) dT_change_9 (by first | (dsimp only; simp) | (simp)) hP hD hS
  · subst h1
    refine jv_aald (pc := 5) (v := tA 4) gX gB hK hP 1 2 rfl rfl rfl (by decide) (by decide) rfl dT_change_5 ?_
    refine lv_iload_n (pc := 6) gX gB dT_change_6 rfl (lv_at hl 1 rfl) ?_
    refine lv_iload_n (pc := 7) gX gB dT_change_7 rfl (lv_at hl 3 rfl) ?_
    refine jv_iast (pc := 8) (ws' := (wT cI cZ cG cR tA pr0 pr1 (uI pr2 c v) pr3 pr4 pr5 pr6 t1 t2 ex pt pn tc)) gX gB hK hP hD hS 4 0 rfl rfl (by decide) (by omega) dT_change_8 rfl (fun H locs hP hD hS => ?_)
    exact hret (pr0, pr1, (uI pr2 c v), pr3, pr4, pr5, pr6) dT_change_9 (by first | (dsimp only; simp) | (simp)) hP hD hS
  · subst h1
    refine jv_aald (pc := 5) (v := tA 5) gX gB hK hP 1 2 rfl rfl rfl (by decide) (by decide) rfl dT_change_5 ?_
    refine lv_iload_n (pc := 6) gX gB dT_change_6 rfl (lv_at hl 1 rfl) ?_
    refine lv_iload_n (pc := 7) gX gB dT_change_7 rfl (lv_at hl 3 rfl) ?_
    refine jv_iast (pc := 8) (ws' := (wT cI cZ cG cR tA pr0 pr1 pr2 (uI pr3 c v) pr4 pr5 pr6 t1 t2 ex pt pn tc)) gX gB hK hP hD hS 5 0 rfl rfl (by decide) (by omega) dT_change_8 rfl (fun H locs hP hD hS => ?_)
    exact hret (pr0, pr1, pr2, (uI pr3 c v), pr4, pr5, pr6) dT_change_9 (by first | (dsimp only; simp) | (simp)) hP hD hS
  · subst h1
    refine jv_aald (pc := 5) (v := tA 6) gX gB hK hP 1 2 rfl rfl rfl (by decide) (by decide) rfl dT_change_5 ?_
    refine lv_iload_n (pc := 6) gX gB dT_change_6 rfl (lv_at hl 1 rfl) ?_
    refine lv_iload_n (pc := 7) gX gB dT_change_7 rfl (lv_at hl 3 rfl) ?_
    refine jv_iast (pc := 8) (ws' := (wT cI cZ cG cR tA pr0 pr1 pr2 pr3 (uI pr4 c v) pr5 pr6 t1 t2 ex pt pn tc)) gX gB hK hP hD hS 6 0 rfl rfl (by decide) (by omega) dT_change_8 rfl (fun H locs hP hD hS => ?_)
    exact hret (pr0, pr1, pr2, pr3, (uI pr4 c v), pr5, pr6) dT_change_9 (by first | (dsimp only; simp) | (simp)) hP hD hS
  · subst h1
    refine jv_aald (pc := 5) (v := tA 7) gX gB hK hP 1 2 rfl rfl rfl (by decide) (by decide) rfl dT_change_5 ?_
    refine lv_iload_n (pc := 6) gX gB dT_change_6 rfl (lv_at hl 1 rfl) ?_
    refine lv_iload_n (pc := 7) gX gB dT_change_7 rfl (lv_at hl 3 rfl) ?_
    refine jv_iast (pc := 8) (ws' := (wT cI cZ cG cR tA pr0 pr1 pr2 pr3 pr4 (uI pr5 c v) pr6 t1 t2 ex pt pn tc)) gX gB hK hP hD hS 7 0 rfl rfl (by decide) (by omega) dT_change_8 rfl (fun H locs hP hD hS => ?_)
    exact hret (pr0, pr1, pr2, pr3, pr4, (uI pr5 c v), pr6) dT_change_9 (by first | (dsimp only; simp) | (simp)) hP hD hS
  · subst h1
    refine jv_aald (pc := 5) (v := tA 8) gX gB hK hP 1 2 rfl rfl rfl (by decide) (by decide) rfl dT_change_5 ?_
    refine lv_iload_n (pc := 6) gX gB dT_change_6 rfl (lv_at hl 1 rfl) ?_
    refine lv_iload_n (pc := 7) gX gB dT_change_7 rfl (lv_at hl 3 rfl) ?_
    refine jv_iast (pc := 8) (ws' := (wT cI cZ cG cR tA pr0 pr1 pr2 pr3 pr4 pr5 (uI pr6 c v) t1 t2 ex pt pn tc)) gX gB hK hP hD hS 8 0 rfl rfl (by decide) (by omega) dT_change_8 rfl (fun H locs hP hD hS => ?_)
    exact hret (pr0, pr1, pr2, pr3, pr4, pr5, (uI pr6 c v)) dT_change_9 (by first | (dsimp only; simp) | (simp)) hP hD hS
set_option maxRecDepth 100000 in
set_option maxHeartbeats 1000000 in
theorem c_T_rank (l : Launch) (dC : Nat → ClassId) (dI : Nat → Nat → Nat) (cI : ClassId) (cZ : ClassId) (cG : ClassId) (cR : ClassId) (tA : Nat → Nat) (pr0 : Int → Int) (pr1 : Int → Int) (pr2 : Int → Int) (pr3 : Int → Int) (pr4 : Int → Int) (pr5 : Int → Int) (pr6 : Int → Int) (t1 : Int → Int) (t2 : Int → Int) (ex : Int → Int) (pt : Int → Int) (pn : Int → Int) (tc : Int → Int) (sz : Nat) (c : Int) (hc : 0 ≤ c ∧ c < 75) : Met l yT_rank wsT_rank ({ frames := 0, cells := 0, slots := 0, locals := 0 }) (va_Pc [.ref (tA 0), .int (iv c)] (jPre (dC, dI) (jT cI cZ cG cR) (wT cI cZ cG cR tA pr0 pr1 pr2 pr3 pr4 pr5 pr6 t1 t2 ex pt pn tc) sz)) (va_Qi (fun (r0 : Int32) (u : Int) => r0 = iv u ∧ (u = pr0 c)) (fun u => jEnd (dC, dI) (jT cI cZ cG cR) (va_A (wT cI cZ cG cR tA pr0 pr1 pr2 pr3 pr4 pr5 pr6 t1 t2 ex pt pn tc) sz) (wT cI cZ cG cR tA pr0 pr1 pr2 pr3 pr4 pr5 pr6 t1 t2 ex pt pn tc)) (va_A (wT cI cZ cG cR tA pr0 pr1 pr2 pr3 pr4 pr5 pr6 t1 t2 ex pt pn tc) sz)) 0 0 (va_A (wT cI cZ cG cR tA pr0 pr1 pr2 pr3 pr4 pr5 pr6 t1 t2 ex pt pn tc) sz) := by
  refine jv_mi (cc := cT_rank) (maxL := 2) (by decide) rfl (Nat.le_of_ble_eq_true rfl) ?_
  intro p0 e0 s0 m0 a0 b0 t0 c0 R0 Q0 A0 ls gX gB hts hown hml hRf hRl hA hK hret hl hP hD hS
  have hown : s0.vm.findClass "TextPipeline$Table" = some m0.cls := hown
  have hw0 : ∀ w ∈ WS0, w.before a0 s0 = true := fun w h => hts w (List.mem_cons_of_mem _ h)
  have hl : lv_has ls 2 [(0, .ref (tA 0)), (1, .int (iv c))] := hl
  have hRf : 0 ≤ R0.frames := hRf
  have hRl : 0 ≤ R0.locals := hRl
  refine lv_aload_n (pc := 0) gX gB dT_rank_0 rfl (lv_at hl 0 rfl) ?_
  refine va_get (pc := 1) (D := (dC, dI)) (ci := 1) (v := .ref (tA 1)) (C := RT) (T := TT) (N := 7) gX gB hw0 inT hown hK hP 0 rfl rfl 0 (by decide) (hw0 _ q64) (fun _ h9 => h9) rfl dT_rank_1 ?_
  refine lv_iconst (pc := 4) (v := iv 0) gX gB dT_rank_4 rfl ?_
  refine jv_aald (pc := 5) (v := tA 2) gX gB hK hP 1 2 rfl rfl rfl (by decide) (by decide) rfl dT_rank_5 ?_
  refine lv_iload_n (pc := 6) gX gB dT_rank_6 rfl (lv_at hl 1 rfl) ?_
  refine jv_iald (pc := 7) gX gB hK hP 2 0 rfl rfl (by decide) (by omega) dT_rank_7 ?_
  exact hret _ (pr0 c) dT_rank_8 ⟨rfl, by rfl⟩ hP hD hS
set_option maxRecDepth 100000 in
set_option maxHeartbeats 1000000 in
theorem c_T_clusterClass (l : Launch) (dC : Nat → ClassId) (dI : Nat → Nat → Nat) (cI : ClassId) (cZ : ClassId) (cG : ClassId) (cR : ClassId) (tA : Nat → Nat) (pr0 : Int → Int) (pr1 : Int → Int) (pr2 : Int → Int) (pr3 : Int → Int) (pr4 : Int → Int) (pr5 : Int → Int) (pr6 : Int → Int) (t1 : Int → Int) (t2 : Int → Int) (ex : Int → Int) (pt : Int → Int) (pn : Int → Int) (tc : Int → Int) (sz : Nat) (c : Int) (hc : 0 ≤ c ∧ c < 75) : Met l yT_clusterClass wsT_clusterClass ({ frames := 0, cells := 0, slots := 0, locals := 0 }) (va_Pc [.ref (tA 0), .int (iv c)] (jPre (dC, dI) (jT cI cZ cG cR) (wT cI cZ cG cR tA pr0 pr1 pr2 pr3 pr4 pr5 pr6 t1 t2 ex pt pn tc) sz)) (va_Qi (fun (r0 : Int32) (u : Int) => r0 = iv u ∧ (u = pr1 c)) (fun u => jEnd (dC, dI) (jT cI cZ cG cR) (va_A (wT cI cZ cG cR tA pr0 pr1 pr2 pr3 pr4 pr5 pr6 t1 t2 ex pt pn tc) sz) (wT cI cZ cG cR tA pr0 pr1 pr2 pr3 pr4 pr5 pr6 t1 t2 ex pt pn tc)) (va_A (wT cI cZ cG cR tA pr0 pr1 pr2 pr3 pr4 pr5 pr6 t1 t2 ex pt pn tc) sz)) 0 0 (va_A (wT cI cZ cG cR tA pr0 pr1 pr2 pr3 pr4 pr5 pr6 t1 t2 ex pt pn tc) sz) := by
  refine jv_mi (cc := cT_clusterClass) (maxL := 2) (by decide) rfl (Nat.le_of_ble_eq_true rfl) ?_
  intro p0 e0 s0 m0 a0 b0 t0 c0 R0 Q0 A0 ls gX gB hts hown hml hRf hRl hA hK hret hl hP hD hS
  have hown : s0.vm.findClass "TextPipeline$Table" = some m0.cls := hown
  have hw0 : ∀ w ∈ WS0, w.before a0 s0 = true := fun w h => hts w (List.mem_cons_of_mem _ h)
  have hl : lv_has ls 2 [(0, .ref (tA 0)), (1, .int (iv c))] := hl
  have hRf : 0 ≤ R0.frames := hRf
  have hRl : 0 ≤ R0.locals := hRl
  refine lv_aload_n (pc := 0) gX gB dT_clusterClass_0 rfl (lv_at hl 0 rfl) ?_
  refine va_get (pc := 1) (D := (dC, dI)) (ci := 1) (v := .ref (tA 1)) (C := RT) (T := TT) (N := 7) gX gB hw0 inT hown hK hP 0 rfl rfl 0 (by decide) (hw0 _ q64) (fun _ h9 => h9) rfl dT_clusterClass_1 ?_
  refine lv_iconst (pc := 4) (v := iv 1) gX gB dT_clusterClass_4 rfl ?_
  refine jv_aald (pc := 5) (v := tA 3) gX gB hK hP 1 2 rfl rfl rfl (by decide) (by decide) rfl dT_clusterClass_5 ?_
  refine lv_iload_n (pc := 6) gX gB dT_clusterClass_6 rfl (lv_at hl 1 rfl) ?_
  refine jv_iald (pc := 7) gX gB hK hP 3 0 rfl rfl (by decide) (by omega) dT_clusterClass_7 ?_
  exact hret _ (pr1 c) dT_clusterClass_8 ⟨rfl, by rfl⟩ hP hD hS
set_option maxRecDepth 100000 in
set_option maxHeartbeats 1000000 in
theorem c_T_lineClass (l : Launch) (dC : Nat → ClassId) (dI : Nat → Nat → Nat) (cI : ClassId) (cZ : ClassId) (cG : ClassId) (cR : ClassId) (tA : Nat → Nat) (pr0 : Int → Int) (pr1 : Int → Int) (pr2 : Int → Int) (pr3 : Int → Int) (pr4 : Int → Int) (pr5 : Int → Int) (pr6 : Int → Int) (t1 : Int → Int) (t2 : Int → Int) (ex : Int → Int) (pt : Int → Int) (pn : Int → Int) (tc : Int → Int) (sz : Nat) (c : Int) (hc : 0 ≤ c ∧ c < 75) : Met l yT_lineClass wsT_lineClass ({ frames := 0, cells := 0, slots := 0, locals := 0 }) (va_Pc [.ref (tA 0), .int (iv c)] (jPre (dC, dI) (jT cI cZ cG cR) (wT cI cZ cG cR tA pr0 pr1 pr2 pr3 pr4 pr5 pr6 t1 t2 ex pt pn tc) sz)) (va_Qi (fun (r0 : Int32) (u : Int) => r0 = iv u ∧ (u = pr2 c)) (fun u => jEnd (dC, dI) (jT cI cZ cG cR) (va_A (wT cI cZ cG cR tA pr0 pr1 pr2 pr3 pr4 pr5 pr6 t1 t2 ex pt pn tc) sz) (wT cI cZ cG cR tA pr0 pr1 pr2 pr3 pr4 pr5 pr6 t1 t2 ex pt pn tc)) (va_A (wT cI cZ cG cR tA pr0 pr1 pr2 pr3 pr4 pr5 pr6 t1 t2 ex pt pn tc) sz)) 0 0 (va_A (wT cI cZ cG cR tA pr0 pr1 pr2 pr3 pr4 pr5 pr6 t1 t2 ex pt pn tc) sz) := by
  refine jv_mi (cc := cT_lineClass) (maxL := 2) (by decide) rfl (Nat.le_of_ble_eq_true rfl) ?_
  intro p0 e0 s0 m0 a0 b0 t0 c0 R0 Q0 A0 ls gX gB hts hown hml hRf hRl hA hK hret hl hP hD hS
  have hown : s0.vm.findClass "TextPipeline$Table" = some m0.cls := hown
  have hw0 : ∀ w ∈ WS0, w.before a0 s0 = true := fun w h => hts w (List.mem_cons_of_mem _ h)
  have hl : lv_has ls 2 [(0, .ref (tA 0)), (1, .int (iv c))] := hl
  have hRf : 0 ≤ R0.frames := hRf
  have hRl : 0 ≤ R0.locals := hRl
  refine lv_aload_n (pc := 0) gX gB dT_lineClass_0 rfl (lv_at hl 0 rfl) ?_
  refine va_get (pc := 1) (D := (dC, dI)) (ci := 1) (v := .ref (tA 1)) (C := RT) (T := TT) (N := 7) gX gB hw0 inT hown hK hP 0 rfl rfl 0 (by decide) (hw0 _ q64) (fun _ h9 => h9) rfl dT_lineClass_1 ?_
  refine lv_iconst (pc := 4) (v := iv 2) gX gB dT_lineClass_4 rfl ?_
  refine jv_aald (pc := 5) (v := tA 4) gX gB hK hP 1 2 rfl rfl rfl (by decide) (by decide) rfl dT_lineClass_5 ?_
  refine lv_iload_n (pc := 6) gX gB dT_lineClass_6 rfl (lv_at hl 1 rfl) ?_
  refine jv_iald (pc := 7) gX gB hK hP 4 0 rfl rfl (by decide) (by omega) dT_lineClass_7 ?_
  exact hret _ (pr2 c) dT_lineClass_8 ⟨rfl, by rfl⟩ hP hD hS
set_option maxRecDepth 100000 in
set_option maxHeartbeats 1000000 in
theorem c_T_sideClass (l : Launch) (dC : Nat → ClassId) (dI : Nat → Nat → Nat) (cI : ClassId) (cZ : ClassId) (cG : ClassId) (cR : ClassId) (tA : Nat → Nat) (pr0 : Int → Int) (pr1 : Int → Int) (pr2 : Int → Int) (pr3 : Int → Int) (pr4 : Int → Int) (pr5 : Int → Int) (pr6 : Int → Int) (t1 : Int → Int) (t2 : Int → Int) (ex : Int → Int) (pt : Int → Int) (pn : Int → Int) (tc : Int → Int) (sz : Nat) (c : Int) (hc : 0 ≤ c ∧ c < 75) : Met l yT_sideClass wsT_sideClass ({ frames := 0, cells := 0, slots := 0, locals := 0 }) (va_Pc [.ref (tA 0), .int (iv c)] (jPre (dC, dI) (jT cI cZ cG cR) (wT cI cZ cG cR tA pr0 pr1 pr2 pr3 pr4 pr5 pr6 t1 t2 ex pt pn tc) sz)) (va_Qi (fun (r0 : Int32) (u : Int) => r0 = iv u ∧ (u = pr3 c)) (fun u => jEnd (dC, dI) (jT cI cZ cG cR) (va_A (wT cI cZ cG cR tA pr0 pr1 pr2 pr3 pr4 pr5 pr6 t1 t2 ex pt pn tc) sz) (wT cI cZ cG cR tA pr0 pr1 pr2 pr3 pr4 pr5 pr6 t1 t2 ex pt pn tc)) (va_A (wT cI cZ cG cR tA pr0 pr1 pr2 pr3 pr4 pr5 pr6 t1 t2 ex pt pn tc) sz)) 0 0 (va_A (wT cI cZ cG cR tA pr0 pr1 pr2 pr3 pr4 pr5 pr6 t1 t2 ex pt pn tc) sz) := by
  refine jv_mi (cc := cT_sideClass) (maxL := 2) (by decide) rfl (Nat.le_of_ble_eq_true rfl) ?_
  intro p0 e0 s0 m0 a0 b0 t0 c0 R0 Q0 A0 ls gX gB hts hown hml hRf hRl hA hK hret hl hP hD hS
  have hown : s0.vm.findClass "TextPipeline$Table" = some m0.cls := hown
  have hw0 : ∀ w ∈ WS0, w.before a0 s0 = true := fun w h => hts w (List.mem_cons_of_mem _ h)
  have hl : lv_has ls 2 [(0, .ref (tA 0)), (1, .int (iv c))] := hl
  have hRf : 0 ≤ R0.frames := hRf
  have hRl : 0 ≤ R0.locals := hRl
  refine lv_aload_n (pc := 0) gX gB dT_sideClass_0 rfl (lv_at hl 0 rfl) ?_
  refine va_get (pc := 1) (D := (dC, dI)) (ci := 1) (v := .ref (tA 1)) (C := RT) (T := TT) (N := 7) gX gB hw0 inT hown hK hP 0 rfl rfl 0 (by decide) (hw0 _ q64) (fun _ h9 => h9) rfl dT_sideClass_1 ?_
  refine lv_iconst (pc := 4) (v := iv 3) gX gB dT_sideClass_4 rfl ?_
  refine jv_aald (pc := 5) (v := tA 5) gX gB hK hP 1 2 rfl rfl rfl (by decide) (by decide) rfl dT_sideClass_5 ?_
  refine lv_iload_n (pc := 6) gX gB dT_sideClass_6 rfl (lv_at hl 1 rfl) ?_
  refine jv_iald (pc := 7) gX gB hK hP 5 0 rfl rfl (by decide) (by omega) dT_sideClass_7 ?_
  exact hret _ (pr3 c) dT_sideClass_8 ⟨rfl, by rfl⟩ hP hD hS
set_option maxRecDepth 100000 in
set_option maxHeartbeats 1000000 in
theorem c_T_weight (l : Launch) (dC : Nat → ClassId) (dI : Nat → Nat → Nat) (cI : ClassId) (cZ : ClassId) (cG : ClassId) (cR : ClassId) (tA : Nat → Nat) (pr0 : Int → Int) (pr1 : Int → Int) (pr2 : Int → Int) (pr3 : Int → Int) (pr4 : Int → Int) (pr5 : Int → Int) (pr6 : Int → Int) (t1 : Int → Int) (t2 : Int → Int) (ex : Int → Int) (pt : Int → Int) (pn : Int → Int) (tc : Int → Int) (sz : Nat) (c : Int) (k : Int) (hc : 0 ≤ c ∧ c < 75) (hk : 0 ≤ k ∧ k < 3) : Met l yT_weight wsT_weight ({ frames := 0, cells := 0, slots := 0, locals := 0 }) (va_Pc [.ref (tA 0), .int (iv c), .int (iv k)] (jPre (dC, dI) (jT cI cZ cG cR) (wT cI cZ cG cR tA pr0 pr1 pr2 pr3 pr4 pr5 pr6 t1 t2 ex pt pn tc) sz)) (va_Qi (fun (r0 : Int32) (u : Int) => r0 = iv u ∧ (u = (if k = 0 then pr4 c else if k = 1 then pr5 c else pr6 c))) (fun u => jEnd (dC, dI) (jT cI cZ cG cR) (va_A (wT cI cZ cG cR tA pr0 pr1 pr2 pr3 pr4 pr5 pr6 t1 t2 ex pt pn tc) sz) (wT cI cZ cG cR tA pr0 pr1 pr2 pr3 pr4 pr5 pr6 t1 t2 ex pt pn tc)) (va_A (wT cI cZ cG cR tA pr0 pr1 pr2 pr3 pr4 pr5 pr6 t1 t2 ex pt pn tc) sz)) 0 0 (va_A (wT cI cZ cG cR tA pr0 pr1 pr2 pr3 pr4 pr5 pr6 t1 t2 ex pt pn tc) sz) := by
  refine jv_mi (cc := cT_weight) (maxL := 3) (by decide) rfl (Nat.le_of_ble_eq_true rfl) ?_
  intro p0 e0 s0 m0 a0 b0 t0 c0 R0 Q0 A0 ls gX gB hts hown hml hRf hRl hA hK hret hl hP hD hS
  have hown : s0.vm.findClass "TextPipeline$Table" = some m0.cls := hown
  have hw0 : ∀ w ∈ WS0, w.before a0 s0 = true := fun w h => hts w (List.mem_cons_of_mem _ h)
  have hl : lv_has ls 3 [(0, .ref (tA 0)), (1, .int (iv c)), (2, .int (iv k))] := hl
  have hRf : 0 ≤ R0.frames := hRf
  have hRl : 0 ≤ R0.locals := hRl
  refine lv_aload_n (pc := 0) gX gB dT_weight_0 rfl (lv_at hl 0 rfl) ?_
  refine va_get (pc := 1) (D := (dC, dI)) (ci := 1) (v := .ref (tA 1)) (C := RT) (T := TT) (N := 7) gX gB hw0 inT hown hK hP 0 rfl rfl 0 (by decide) (hw0 _ q64) (fun _ h9 => h9) rfl dT_weight_1 ?_
  refine lv_iconst (pc := 4) (v := iv 4) gX gB dT_weight_4 rfl ?_
  refine lv_iload_n (pc := 5) gX gB dT_weight_5 rfl (lv_at hl 2 rfl) ?_
  refine jv_iadd (pc := 6) (x := 4) (y := k) gX gB dT_weight_6 ?_
  rcases (show k = 0 ∨ k = 1 ∨ k = 2 by omega) with h1 | h1 | h1
  · subst h1
    refine jv_aald (pc := 7) (v := tA 6) gX gB hK hP 1 2 rfl rfl rfl (by decide) (by decide) rfl dT_weight_7 ?_
    refine lv_iload_n (pc := 8) gX gB dT_weight_8 rfl (lv_at hl 1 rfl) ?_
    refine jv_iald (pc := 9) gX gB hK hP 6 0 rfl rfl (by decide) (by omega) dT_weight_9 ?_
    exact hret _ (pr4 c) dT_weight_10 ⟨rfl, by rfl⟩ hP hD hS
  · subst h1
    refine jv_aald (pc := 7) (v := tA 7) gX gB hK hP 1 2 rfl rfl rfl (by decide) (by decide) rfl dT_weight_7 ?_
    refine lv_iload_n (pc := 8) gX gB dT_weight_8 rfl (lv_at hl 1 rfl) ?_
    refine jv_iald (pc := 9) gX gB hK hP 7 0 rfl rfl (by decide) (by omega) dT_weight_9 ?_
    exact hret _ (pr5 c) dT_weight_10 ⟨rfl, by rfl⟩ hP hD hS
  · subst h1
    refine jv_aald (pc := 7) (v := tA 8) gX gB hK hP 1 2 rfl rfl rfl (by decide) (by decide) rfl dT_weight_7 ?_
    refine lv_iload_n (pc := 8) gX gB dT_weight_8 rfl (lv_at hl 1 rfl) ?_
    refine jv_iald (pc := 9) gX gB hK hP 8 0 rfl rfl (by decide) (by omega) dT_weight_9 ?_
    exact hret _ (pr6 c) dT_weight_10 ⟨rfl, by rfl⟩ hP hD hS
set_option maxRecDepth 100000 in
set_option maxHeartbeats 1000000 in
theorem c_T_partsOf (l : Launch) (dC : Nat → ClassId) (dI : Nat → Nat → Nat) (cI : ClassId) (cZ : ClassId) (cG : ClassId) (cR : ClassId) (tA : Nat → Nat) (pr0 : Int → Int) (pr1 : Int → Int) (pr2 : Int → Int) (pr3 : Int → Int) (pr4 : Int → Int) (pr5 : Int → Int) (pr6 : Int → Int) (t1 : Int → Int) (t2 : Int → Int) (ex : Int → Int) (pt : Int → Int) (pn : Int → Int) (tc : Int → Int) (sz : Nat) (c : Int) (hc : 0 ≤ c ∧ c < 75) : Met l yT_partsOf wsT_partsOf ({ frames := 0, cells := 0, slots := 0, locals := 0 }) (va_Pc [.ref (tA 0), .int (iv c)] (jPre (dC, dI) (jT cI cZ cG cR) (wT cI cZ cG cR tA pr0 pr1 pr2 pr3 pr4 pr5 pr6 t1 t2 ex pt pn tc) sz)) (va_Qi (fun (r0 : Int32) (u : Int) => r0 = iv u ∧ (u = pn c)) (fun u => jEnd (dC, dI) (jT cI cZ cG cR) (va_A (wT cI cZ cG cR tA pr0 pr1 pr2 pr3 pr4 pr5 pr6 t1 t2 ex pt pn tc) sz) (wT cI cZ cG cR tA pr0 pr1 pr2 pr3 pr4 pr5 pr6 t1 t2 ex pt pn tc)) (va_A (wT cI cZ cG cR tA pr0 pr1 pr2 pr3 pr4 pr5 pr6 t1 t2 ex pt pn tc) sz)) 0 0 (va_A (wT cI cZ cG cR tA pr0 pr1 pr2 pr3 pr4 pr5 pr6 t1 t2 ex pt pn tc) sz) := by
  refine jv_mi (cc := cT_partsOf) (maxL := 2) (by decide) rfl (Nat.le_of_ble_eq_true rfl) ?_
  intro p0 e0 s0 m0 a0 b0 t0 c0 R0 Q0 A0 ls gX gB hts hown hml hRf hRl hA hK hret hl hP hD hS
  have hown : s0.vm.findClass "TextPipeline$Table" = some m0.cls := hown
  have hw0 : ∀ w ∈ WS0, w.before a0 s0 = true := fun w h => hts w (List.mem_cons_of_mem _ h)
  have hl : lv_has ls 2 [(0, .ref (tA 0)), (1, .int (iv c))] := hl
  have hRf : 0 ≤ R0.frames := hRf
  have hRl : 0 ≤ R0.locals := hRl
  refine lv_aload_n (pc := 0) gX gB dT_partsOf_0 rfl (lv_at hl 0 rfl) ?_
  refine va_get (pc := 1) (D := (dC, dI)) (ci := 1) (v := .ref (tA 13)) (C := RT) (T := TT) (N := 7) gX gB hw0 inT hown hK hP 0 rfl rfl 5 (by decide) (hw0 _ q69) (fun _ h9 => h9) rfl dT_partsOf_1 ?_
  refine lv_iload_n (pc := 4) gX gB dT_partsOf_4 rfl (lv_at hl 1 rfl) ?_
  refine jv_iald (pc := 5) gX gB hK hP 13 0 rfl rfl (by decide) (by omega) dT_partsOf_5 ?_
  exact hret _ (pn c) dT_partsOf_6 ⟨rfl, by rfl⟩ hP hD hS
set_option maxRecDepth 100000 in
set_option maxHeartbeats 1000000 in
theorem c_T_partOf (l : Launch) (dC : Nat → ClassId) (dI : Nat → Nat → Nat) (cI : ClassId) (cZ : ClassId) (cG : ClassId) (cR : ClassId) (tA : Nat → Nat) (pr0 : Int → Int) (pr1 : Int → Int) (pr2 : Int → Int) (pr3 : Int → Int) (pr4 : Int → Int) (pr5 : Int → Int) (pr6 : Int → Int) (t1 : Int → Int) (t2 : Int → Int) (ex : Int → Int) (pt : Int → Int) (pn : Int → Int) (tc : Int → Int) (sz : Nat) (c : Int) (i : Int) (hc : 0 ≤ c ∧ c < 75) (hi : 0 ≤ i ∧ i < 4) : Met l yT_partOf wsT_partOf ({ frames := 0, cells := 0, slots := 0, locals := 0 }) (va_Pc [.ref (tA 0), .int (iv c), .int (iv i)] (jPre (dC, dI) (jT cI cZ cG cR) (wT cI cZ cG cR tA pr0 pr1 pr2 pr3 pr4 pr5 pr6 t1 t2 ex pt pn tc) sz)) (va_Qi (fun (r0 : Int32) (u : Int) => r0 = iv u ∧ (u = pt (c * 4 + i))) (fun u => jEnd (dC, dI) (jT cI cZ cG cR) (va_A (wT cI cZ cG cR tA pr0 pr1 pr2 pr3 pr4 pr5 pr6 t1 t2 ex pt pn tc) sz) (wT cI cZ cG cR tA pr0 pr1 pr2 pr3 pr4 pr5 pr6 t1 t2 ex pt pn tc)) (va_A (wT cI cZ cG cR tA pr0 pr1 pr2 pr3 pr4 pr5 pr6 t1 t2 ex pt pn tc) sz)) 0 0 (va_A (wT cI cZ cG cR tA pr0 pr1 pr2 pr3 pr4 pr5 pr6 t1 t2 ex pt pn tc) sz) := by
  refine jv_mi (cc := cT_partOf) (maxL := 3) (by decide) rfl (Nat.le_of_ble_eq_true rfl) ?_
  intro p0 e0 s0 m0 a0 b0 t0 c0 R0 Q0 A0 ls gX gB hts hown hml hRf hRl hA hK hret hl hP hD hS
  have hown : s0.vm.findClass "TextPipeline$Table" = some m0.cls := hown
  have hw0 : ∀ w ∈ WS0, w.before a0 s0 = true := fun w h => hts w (List.mem_cons_of_mem _ h)
  have hl : lv_has ls 3 [(0, .ref (tA 0)), (1, .int (iv c)), (2, .int (iv i))] := hl
  have hRf : 0 ≤ R0.frames := hRf
  have hRl : 0 ≤ R0.locals := hRl
  refine lv_aload_n (pc := 0) gX gB dT_partOf_0 rfl (lv_at hl 0 rfl) ?_
  refine va_get (pc := 1) (D := (dC, dI)) (ci := 1) (v := .ref (tA 12)) (C := RT) (T := TT) (N := 7) gX gB hw0 inT hown hK hP 0 rfl rfl 4 (by decide) (hw0 _ q68) (fun _ h9 => h9) rfl dT_partOf_1 ?_
  refine lv_iload_n (pc := 4) gX gB dT_partOf_4 rfl (lv_at hl 1 rfl) ?_
  refine lv_iconst (pc := 5) (v := iv 4) gX gB dT_partOf_5 rfl ?_
  refine jv_imul (pc := 6) (x := c) (y := 4) gX gB dT_partOf_6 ?_
  refine lv_iload_n (pc := 7) gX gB dT_partOf_7 rfl (lv_at hl 2 rfl) ?_
  refine jv_iadd (pc := 8) (x := c * 4) (y := i) gX gB dT_partOf_8 ?_
  refine jv_iald (pc := 9) gX gB hK hP 12 0 rfl rfl (by decide) (by omega) dT_partOf_9 ?_
  exact hret _ (pt ((c * 4) + i)) dT_partOf_10 ⟨rfl, by rfl⟩ hP hD hS
set_option maxRecDepth 100000 in
set_option maxHeartbeats 1000000 in
theorem c_T_addPart (l : Launch) (dC : Nat → ClassId) (dI : Nat → Nat → Nat) (cI : ClassId) (cZ : ClassId) (cG : ClassId) (cR : ClassId) (tA : Nat → Nat) (pr0 : Int → Int) (pr1 : Int → Int) (pr2 : Int → Int) (pr3 : Int → Int) (pr4 : Int → Int) (pr5 : Int → Int) (pr6 : Int → Int) (t1 : Int → Int) (t2 : Int → Int) (ex : Int → Int) (pt : Int → Int) (pn : Int → Int) (tc : Int → Int) (sz : Nat) (c : Int) (x : Int) (hc : 0 ≤ c ∧ c < 75) (hn : 0 ≤ pn c ∧ pn c < 4) : Met l yT_addPart wsT_addPart ({ frames := 0, cells := 0, slots := 0, locals := 0 }) (va_Pc [.ref (tA 0), .int (iv c), .int (iv x)] (jPre (dC, dI) (jT cI cZ cG cR) (wT cI cZ cG cR tA pr0 pr1 pr2 pr3 pr4 pr5 pr6 t1 t2 ex pt pn tc) sz)) (va_Qv (fun u : (Int → Int) × (Int → Int) => u.1 = uI pt (c * 4 + pn c) x ∧ u.2 = uI pn c (pn c + 1)) (fun u => jEnd (dC, dI) (jT cI cZ cG cR) (va_A (wT cI cZ cG cR tA pr0 pr1 pr2 pr3 pr4 pr5 pr6 t1 t2 ex pt pn tc) sz) (wT cI cZ cG cR tA pr0 pr1 pr2 pr3 pr4 pr5 pr6 t1 t2 ex u.1 u.2 tc)) (va_A (wT cI cZ cG cR tA pr0 pr1 pr2 pr3 pr4 pr5 pr6 t1 t2 ex pt pn tc) sz)) 0 0 (va_A (wT cI cZ cG cR tA pr0 pr1 pr2 pr3 pr4 pr5 pr6 t1 t2 ex pt pn tc) sz) := by
  refine jv_mv (cc := cT_addPart) (maxL := 3) (by decide) rfl (Nat.le_of_ble_eq_true rfl) ?_
  intro p0 e0 s0 m0 a0 b0 t0 c0 R0 Q0 A0 ls gX gB hts hown hml hRf hRl hA hK hret hl hP hD hS
  have hown : s0.vm.findClass "TextPipeline$Table" = some m0.cls := hown
  have hw0 : ∀ w ∈ WS0, w.before a0 s0 = true := fun w h => hts w (List.mem_cons_of_mem _ h)
  have hl : lv_has ls 3 [(0, .ref (tA 0)), (1, .int (iv c)), (2, .int (iv x))] := hl
  have hRf : 0 ≤ R0.frames := hRf
  have hRl : 0 ≤ R0.locals := hRl
  refine lv_aload_n (pc := 0) gX gB dT_addPart_0 rfl (lv_at hl 0 rfl) ?_
  refine va_get (pc := 1) (D := (dC, dI)) (ci := 1) (v := .ref (tA 13)) (C := RT) (T := TT) (N := 7) gX gB hw0 inT hown hK hP 0 rfl rfl 5 (by decide) (hw0 _ q69) (fun _ h9 => h9) rfl dT_addPart_1 ?_
  refine lv_iload_n (pc := 4) gX gB dT_addPart_4 rfl (lv_at hl 1 rfl) ?_
  refine jv_iald (pc := 5) gX gB hK hP 13 0 rfl rfl (by decide) (by omega) dT_addPart_5 ?_
  refine lv_iconst (pc := 6) (v := iv 4) gX gB dT_addPart_6 rfl ?_
  refine jv_icmp_ge (pc := 7) (tgt := 36) gX gB dT_addPart_7 (by decide) (by omega) (by decide) (fun h1 => ?_) (fun h1 => ?_)
  · exfalso; omega
  refine lv_aload_n (pc := 10) gX gB dT_addPart_10 rfl (lv_at hl 0 rfl) ?_
  refine va_get (pc := 11) (D := (dC, dI)) (ci := 1) (v := .ref (tA 12)) (C := RT) (T := TT) (N := 7) gX gB hw0 inT hown hK hP 0 rfl rfl 4 (by decide) (hw0 _ q68) (fun _ h9 => h9) rfl dT_addPart_11 ?_
  refine lv_iload_n (pc := 14) gX gB dT_addPart_14 rfl (lv_at hl 1 rfl) ?_
  refine lv_iconst (pc := 15) (v := iv 4) gX gB dT_addPart_15 rfl ?_
  refine jv_imul (pc := 16) (x := c) (y := 4) gX gB dT_addPart_16 ?_
  refine lv_aload_n (pc := 17) gX gB dT_addPart_17 rfl (lv_at hl 0 rfl) ?_
  refine va_get (pc := 18) (D := (dC, dI)) (ci := 1) (v := .ref (tA 13)) (C := RT) (T := TT) (N := 7) gX gB hw0 inT hown hK hP 0 rfl rfl 5 (by decide) (hw0 _ q69) (fun _ h9 => h9) rfl dT_addPart_18 ?_
  refine lv_iload_n (pc := 21) gX gB dT_addPart_21 rfl (lv_at hl 1 rfl) ?_
  refine jv_iald (pc := 22) gX gB hK hP 13 0 rfl rfl (by decide) (by omega) dT_addPart_22 ?_
  refine jv_iadd (pc := 23) (x := c * 4) (y := pn c) gX gB dT_addPart_23 ?_
  refine lv_iload_n (pc := 24) gX gB dT_addPart_24 rfl (lv_at hl 2 rfl) ?_
  refine jv_iast (pc := 25) (ws' := (wT cI cZ cG cR tA pr0 pr1 pr2 pr3 pr4 pr5 pr6 t1 t2 ex (uI pt ((c * 4) + (pn c)) x) pn tc)) gX gB hK hP hD hS 12 0 rfl rfl (by decide) (by omega) dT_addPart_25 rfl (fun H locs hP hD hS => ?_)
  refine lv_aload_n (pc := 26) gX gB dT_addPart_26 rfl (lv_at hl 0 rfl) ?_
  refine va_get (pc := 27) (D := (dC, dI)) (ci := 1) (v := .ref (tA 13)) (C := RT) (T := TT) (N := 7) gX gB hw0 inT hown hK hP 0 rfl rfl 5 (by decide) (hw0 _ q69) (fun _ h9 => h9) rfl dT_addPart_27 ?_
  refine lv_iload_n (pc := 30) gX gB dT_addPart_30 rfl (lv_at hl 1 rfl) ?_
  refine lv_dup2_11 (pc := 31) gX gB dT_addPart_31 rfl rfl ?_
  refine jv_iald (pc := 32) gX gB hK hP 13 0 rfl rfl (by decide) (by omega) dT_addPart_32 ?_
  refine lv_iconst (pc := 33) (v := iv 1) gX gB dT_addPart_33 rfl ?_
  refine jv_iadd (pc := 34) (x := pn c) (y := 1) gX gB dT_addPart_34 ?_
  refine jv_iast (pc := 35) (ws' := (wT cI cZ cG cR tA pr0 pr1 pr2 pr3 pr4 pr5 pr6 t1 t2 ex (uI pt ((c * 4) + (pn c)) x) (uI pn c ((pn c) + 1)) tc)) gX gB hK hP hD hS 13 0 rfl rfl (by decide) (by omega) dT_addPart_35 rfl (fun H locs hP hD hS => ?_)
  exact hret ((uI pt ((c * 4) + (pn c)) x), (uI pn c ((pn c) + 1))) dT_addPart_36 (by first | (dsimp only; exact ⟨rfl, rfl⟩) | (exact ⟨rfl, rfl⟩)) hP hD hS
set_option maxRecDepth 100000 in
set_option maxHeartbeats 1000000 in
theorem c_T_addPartsOf (l : Launch) (dC : Nat → ClassId) (dI : Nat → Nat → Nat) (cI : ClassId) (cZ : ClassId) (cG : ClassId) (cR : ClassId) (tA : Nat → Nat) (pr0 : Int → Int) (pr1 : Int → Int) (pr2 : Int → Int) (pr3 : Int → Int) (pr4 : Int → Int) (pr5 : Int → Int) (pr6 : Int → Int) (t1 : Int → Int) (t2 : Int → Int) (ex : Int → Int) (pt : Int → Int) (pn : Int → Int) (tc : Int → Int) (sz : Nat) (c : Int) (d : Int) (hc : 0 ≤ c ∧ c < 75) (hd : 0 ≤ d ∧ d < 75 ∧ d ≠ c) (hn : 0 ≤ pn c ∧ 0 ≤ pn d ∧ pn c + pn d ≤ 4) : Met l yT_addPartsOf wsT_addPartsOf ({ frames := 1, cells := 0, slots := 0, locals := 22 }) (va_Pc [.ref (tA 0), .int (iv c), .int (iv d)] (jPre (dC, dI) (jT cI cZ cG cR) (wT cI cZ cG cR tA pr0 pr1 pr2 pr3 pr4 pr5 pr6 t1 t2 ex pt pn tc) sz)) (va_Qv (fun u : (Int → Int) × (Int → Int) => u.2 = uI pn c (pn c + pn d) ∧ (∀ j, 0 ≤ j → j < pn d → u.1 (4 * c + pn c + j) = pt (4 * d + j)) ∧ (∀ q, (q < 4 * c + pn c ∨ 4 * c + 4 ≤ q) → u.1 q = pt q)) (fun u => jEnd (dC, dI) (jT cI cZ cG cR) (va_A (wT cI cZ cG cR tA pr0 pr1 pr2 pr3 pr4 pr5 pr6 t1 t2 ex pt pn tc) sz) (wT cI cZ cG cR tA pr0 pr1 pr2 pr3 pr4 pr5 pr6 t1 t2 ex u.1 u.2 tc)) (va_A (wT cI cZ cG cR tA pr0 pr1 pr2 pr3 pr4 pr5 pr6 t1 t2 ex pt pn tc) sz)) 0 0 (va_A (wT cI cZ cG cR tA pr0 pr1 pr2 pr3 pr4 pr5 pr6 t1 t2 ex pt pn tc) sz) := by
  refine jv_mv (cc := cT_addPartsOf) (maxL := 4) (by decide) rfl (Nat.le_of_ble_eq_true rfl) ?_
  intro p0 e0 s0 m0 a0 b0 t0 c0 R0 Q0 A0 ls gX gB hts hown hml hRf hRl hA hK hret hl hP hD hS
  have hown : s0.vm.findClass "TextPipeline$Table" = some m0.cls := hown
  have hw0 : ∀ w ∈ WS0, w.before a0 s0 = true := fun w h => hts w (List.mem_cons_of_mem _ h)
  have hl : lv_has ls 4 [(0, .ref (tA 0)), (1, .int (iv c)), (2, .int (iv d))] := hl
  have hRf : 1 ≤ R0.frames := hRf
  have hRl : 22 ≤ R0.locals := hRl
  refine lv_iconst (pc := 0) (v := iv 0) gX gB dT_addPartsOf_0 rfl ?_
  refine lv_istore_n (pc := 1) (lv' := [(3, .int (iv 0)), (0, .ref (tA 0)), (1, .int (iv c)), (2, .int (iv d))]) gX gB dT_addPartsOf_1 rfl hl (by decide) rfl (fun ls hl => ?_)
  have cut2 : ∀ (n0 : Nat) (i : Int) (p1 : Int → Int) (n1 : Int → Int) (ls : Array Slot) (H : Heap) (locs : List Loc), (0 ≤ i ∧ i ≤ pn d) → (n1 = uI pn c (pn c + i)) → (∀ j, 0 ≤ j → j < i → p1 (4 * c + pn c + j) = pt (4 * d + j)) → (∀ q, (q < 4 * c + pn c ∨ 4 * c + 4 ≤ q) → p1 q = pt q) → ((pn d - i : Int).toNat < n0) → lv_has ls 4 [(0, .ref (tA 0)), (1, .int (iv c)), (2, .int (iv d)), (3, .int (iv i))] → va_P (dC, dI) vwCl (wT cI cZ cG cR tA pr0 pr1 pr2 pr3 pr4 pr5 pr6 t1 t2 ex p1 n1 tc) H → va_D A0 (wT cI cZ cG cR tA pr0 pr1 pr2 pr3 pr4 pr5 pr6 t1 t2 ex p1 n1 tc) → va_S A0 s0.heap H locs → W p0 l e0 R0 s0 m0 a0 b0 t0 c0 H locs 0 0 Q0 (F0 m0 2 ls []) := by
    intro n0
    induction n0 with
    | zero => intro i p1 n1 ls H locs hi hn1 hp1 hp2 hm hl hP hD hS; exact absurd hm (Nat.not_lt_zero _)
    | succ n0 ih2 =>
      intro i p1 n1 ls H locs hi hn1 hp1 hp2 hm2 hl hP hD hS
      have hnd : n1 d = pn d := by rw [hn1]; exact uI_n (by omega)
      have hnc : n1 c = pn c + i := by rw [hn1]; exact uI_s
      refine lv_iload_n (pc := 2) gX gB dT_addPartsOf_2 rfl (lv_at hl 3 rfl) ?_
      refine lv_aload_n (pc := 3) gX gB dT_addPartsOf_3 rfl (lv_at hl 0 rfl) ?_
      refine va_get (pc := 4) (D := (dC, dI)) (ci := 1) (v := .ref (tA 13)) (C := RT) (T := TT) (N := 7) gX gB hw0 inT hown hK hP 0 rfl rfl 5 (by decide) (hw0 _ q69) (fun _ h9 => h9) rfl dT_addPartsOf_4 ?_
      refine lv_iload_n (pc := 7) gX gB dT_addPartsOf_7 rfl (lv_at hl 2 rfl) ?_
      refine jv_iald (pc := 8) gX gB hK hP 13 0 rfl rfl (by decide) (by omega) dT_addPartsOf_8 ?_
      refine jv_icmp_ge (pc := 9) (tgt := 29) gX gB dT_addPartsOf_9 (by decide) (by omega) (by omega) (fun h1 => ?_) (fun h1 => ?_)
      · skip
        exact hret (p1, n1) dT_addPartsOf_29 (by first | (dsimp only; exact ⟨by rw [hn1, show i = pn d by omega], fun j a b => hp1 j a (by omega), hp2⟩) | (exact ⟨by rw [hn1, show i = pn d by omega], fun j a b => hp1 j a (by omega), hp2⟩)) hP hD hS
      refine lv_aload_n (pc := 12) gX gB dT_addPartsOf_12 rfl (lv_at hl 0 rfl) ?_
      refine lv_iload_n (pc := 13) gX gB dT_addPartsOf_13 rfl (lv_at hl 1 rfl) ?_
      refine lv_aload_n (pc := 14) gX gB dT_addPartsOf_14 rfl (lv_at hl 0 rfl) ?_
      refine lv_iload_n (pc := 15) gX gB dT_addPartsOf_15 rfl (lv_at hl 2 rfl) ?_
      refine lv_iload_n (pc := 16) gX gB dT_addPartsOf_16 rfl (lv_at hl 3 rfl) ?_
      refine jv_ri (pc := 17) (wr := []) (wn := fun u : Int => (wT cI cZ cG cR tA pr0 pr1 pr2 pr3 pr4 pr5 pr6 t1 t2 ex p1 n1 tc)) (va_runV (rest := [.int (iv c), .ref (tA 0)]) ⟨gX, gB, hml, hown, hw0⟩ (c_T_partOf l dC dI cI cZ cG cR tA pr0 pr1 pr2 pr3 pr4 pr5 pr6 t1 t2 ex p1 n1 tc _ d i (by omega) (by omega)) (jcV hw0 kT_partOf q60 rfl rfl ⟨Nat.le_trans (Nat.le_of_ble_eq_true rfl) hRf, Nat.le_trans (Nat.le_of_ble_eq_true rfl) hRl⟩) (jv_preV (ci := 1) (q0 := 0) hK hP hD [0, 1, 2, 3, 4, 5, 6, 7, 8, 9, 10, 11, 12, 13, 14] rfl (by decide) rfl rfl) rfl rfl hl.1 rfl (lv_room (Nat.le_of_ble_eq_true rfl)) dT_addPartsOf_17 ⟨Nat.zero_le _, Nat.zero_le _⟩) hP hD hS hA [0, 1, 2, 3, 4, 5, 6, 7, 8, 9, 10, 11, 12, 13, 14] [] [0, 1, 2, 3, 4, 5, 6, 7, 8, 9, 10, 11, 12, 13, 14] rfl rfl (by decide) (by decide) (by decide) (fun _ => rfl) (fun r0 u H locs hw17 hP hD hS => ?_)
      obtain ⟨r_17, hu⟩ : ∃ z, z = u := ⟨_, rfl⟩; subst hu
      obtain ⟨rfl, hw17⟩ := hw17
      refine jv_rv (pc := 20) (wr := []) (wn := fun u : (Int → Int) × (Int → Int) => (wT cI cZ cG cR tA pr0 pr1 pr2 pr3 pr4 pr5 pr6 t1 t2 ex u.1 u.2 tc)) (va_runV (rest := []) ⟨gX, gB, hml, hown, hw0⟩ (c_T_addPart l dC dI cI cZ cG cR tA pr0 pr1 pr2 pr3 pr4 pr5 pr6 t1 t2 ex p1 n1 tc _ c r_17 (by omega) (by omega)) (jcV hw0 kT_addPart q52 rfl rfl ⟨Nat.le_trans (Nat.le_of_ble_eq_true rfl) hRf, Nat.le_trans (Nat.le_of_ble_eq_true rfl) hRl⟩) (jv_preV (ci := 1) (q0 := 0) hK hP hD [0, 1, 2, 3, 4, 5, 6, 7, 8, 9, 10, 11, 12, 13, 14] rfl (by decide) rfl rfl) rfl rfl hl.1 rfl (lv_room (Nat.le_of_ble_eq_true rfl)) dT_addPartsOf_20 ⟨Nat.zero_le _, Nat.zero_le _⟩) hP hD hS hA [0, 1, 2, 3, 4, 5, 6, 7, 8, 9, 10, 11, 12, 13, 14] [] [0, 1, 2, 3, 4, 5, 6, 7, 8, 9, 10, 11, 12, 13, 14] rfl rfl (by decide) (by decide) (by decide) (fun _ => rfl) (fun u H locs hw20 hP hD hS => ?_)
      obtain ⟨pt_20, pn_20⟩ := u
      dsimp only at hw20 hP hD
      refine jv_iinc (pc := 23) (k := 3) (x := i) (n := 1) (lv' := [(3, .int (iv (i + 1))), (0, .ref (tA 0)), (1, .int (iv c)), (2, .int (iv d))]) gX gB dT_addPartsOf_23 hl rfl (by decide) rfl (fun ls hl => ?_)
      refine lv_goto (pc := 26) (tgt := 2) gX gB dT_addPartsOf_26 (by decide) ?_
      exact ih2 (i + 1) pt_20 pn_20 _ _ _ (by omega) (by rw [hw20.2, hn1, uI_s]; funext j; by_cases e : j = c; (rw [uI_e e, uI_e e]; omega); (rw [uI_n e, uI_n e, uI_n e])) (by intro j a b; rw [hw20.1, hnc]; by_cases e : j = i; (rw [uI_e (by omega), hw17, hp2 (d * 4 + i) (by omega), e]; congr 1; omega); (rw [uI_n (by omega)]; exact hp1 j a (by omega))) (by intro q h; rw [hw20.1, hnc, uI_n (by omega)]; exact hp2 q h) (by omega) (lv_sub hl [1, 2, 3, 0] rfl) hP hD hS
  exact cut2 (((pn d - 0 : Int).toNat) + 1) 0 pt pn _ _ _ (by omega) (by rw [show pn c + 0 = pn c by omega]; funext j; by_cases e : j = c; (rw [uI_e e, e]); (rw [uI_n e])) (by intro j a b; omega) (by intro q _; rfl) (Nat.lt_succ_self _) (lv_sub hl [1, 2, 3, 0] rfl) hP hD hS
set_option maxRecDepth 100000 in
set_option maxHeartbeats 1000000 in
theorem c_T_joinOf (l : Launch) (dC : Nat → ClassId) (dI : Nat → Nat → Nat) (cI : ClassId) (cZ : ClassId) (cG : ClassId) (cR : ClassId) (tA : Nat → Nat) (pr0 : Int → Int) (pr1 : Int → Int) (pr2 : Int → Int) (pr3 : Int → Int) (pr4 : Int → Int) (pr5 : Int → Int) (pr6 : Int → Int) (t1 : Int → Int) (t2 : Int → Int) (ex : Int → Int) (pt : Int → Int) (pn : Int → Int) (tc : Int → Int) (sz : Nat) (a : Int) (b : Int) (ha : 0 ≤ a ∧ a < 75) (hb9 : 0 ≤ b ∧ b < 75) (hv : vpt t1 t2) (hf : fixP t1 t2) (hp0 : ∀ c, 0 ≤ c → c < 75 → 0 ≤ pr0 c ∧ pr0 c ≤ 254) (hex : ∀ c, 0 ≤ c → c < 75 → ex c = 0 ∨ ex c = 1) : Met l yT_joinOf wsT_joinOf ({ frames := 0, cells := 0, slots := 0, locals := 0 }) (va_Pc [.ref (tA 0), .int (iv a), .int (iv b)] (jPre (dC, dI) (jT cI cZ cG cR) (wT cI cZ cG cR tA pr0 pr1 pr2 pr3 pr4 pr5 pr6 t1 t2 ex pt pn tc) sz)) (va_Qi (fun (r0 : Int32) (u : Int) => r0 = iv u ∧ (u = fsx (jokC pr0 t1 t2 ex a b) 75 0 ∧ -1 ≤ u ∧ u < 75)) (fun u => jEnd (dC, dI) (jT cI cZ cG cR) (va_A (wT cI cZ cG cR tA pr0 pr1 pr2 pr3 pr4 pr5 pr6 t1 t2 ex pt pn tc) sz) (wT cI cZ cG cR tA pr0 pr1 pr2 pr3 pr4 pr5 pr6 t1 t2 ex pt pn tc)) (va_A (wT cI cZ cG cR tA pr0 pr1 pr2 pr3 pr4 pr5 pr6 t1 t2 ex pt pn tc) sz)) 0 0 (va_A (wT cI cZ cG cR tA pr0 pr1 pr2 pr3 pr4 pr5 pr6 t1 t2 ex pt pn tc) sz) := by
  refine jv_mi (cc := cT_joinOf) (maxL := 5) (by decide) rfl (Nat.le_of_ble_eq_true rfl) ?_
  intro p0 e0 s0 m0 a0 b0 t0 c0 R0 Q0 A0 ls gX gB hts hown hml hRf hRl hA hK hret hl hP hD hS
  have hown : s0.vm.findClass "TextPipeline$Table" = some m0.cls := hown
  have hw0 : ∀ w ∈ WS0, w.before a0 s0 = true := fun w h => hts w (List.mem_cons_of_mem _ h)
  have hl : lv_has ls 5 [(0, .ref (tA 0)), (1, .int (iv a)), (2, .int (iv b))] := hl
  have hRf : 0 ≤ R0.frames := hRf
  have hRl : 0 ≤ R0.locals := hRl
  refine lv_iconst (pc := 0) (v := iv 0) gX gB dT_joinOf_0 rfl ?_
  refine lv_istore_n (pc := 1) (lv' := [(3, .int (iv 0)), (0, .ref (tA 0)), (1, .int (iv a)), (2, .int (iv b))]) gX gB dT_joinOf_1 rfl hl (by decide) rfl (fun ls hl => ?_)
  have cut2 : ∀ (n0 : Nat) (c : Int) (ls : Array Slot) (H : Heap) (locs : List Loc), (0 ≤ c ∧ c ≤ 75) → (∀ j, 0 ≤ j → j < c → jokC pr0 t1 t2 ex a b j = false) → ((75 - c : Int).toNat < n0) → lv_has ls 5 [(0, .ref (tA 0)), (1, .int (iv a)), (2, .int (iv b)), (3, .int (iv c))] → va_P (dC, dI) vwCl (wT cI cZ cG cR tA pr0 pr1 pr2 pr3 pr4 pr5 pr6 t1 t2 ex pt pn tc) H → va_D A0 (wT cI cZ cG cR tA pr0 pr1 pr2 pr3 pr4 pr5 pr6 t1 t2 ex pt pn tc) → va_S A0 s0.heap H locs → W p0 l e0 R0 s0 m0 a0 b0 t0 c0 H locs 0 0 Q0 (F0 m0 2 ls []) := by
    intro n0
    induction n0 with
    | zero => intro c ls H locs hc hq hm hl hP hD hS; exact absurd hm (Nat.not_lt_zero _)
    | succ n0 ih2 =>
      intro c ls H locs hc hq hm2 hl hP hD hS
      refine lv_iload_n (pc := 2) gX gB dT_joinOf_2 rfl (lv_at hl 3 rfl) ?_
      refine lv_bipush (pc := 3) (v := iv 75) gX gB dT_joinOf_3 (by decide) ?_
      refine jv_icmp_ge (pc := 5) (tgt := 68) gX gB dT_joinOf_5 (by decide) (by omega) (by decide) (fun h1 => ?_) (fun h1 => ?_)
      · skip
        refine lv_iconst (pc := 68) (v := iv (-1)) gX gB dT_joinOf_68 rfl ?_
        exact hret _ ((-1)) dT_joinOf_69 ⟨rfl, by exact ⟨fsx_uniq (by omega) (Or.inl ⟨rfl, fun j x y => hq j x (by omega)⟩), by omega, by omega⟩⟩ hP hD hS
      have hvc := fix_rng hv hf (c := c) (by omega) (by omega)
      have hp9 := hp0 c (by omega) (by omega)
      have he9 := hex c (by omega) (by omega)
      have cut62 : ∀ (ls : Array Slot) (H : Heap) (locs : List Loc), (jokC pr0 t1 t2 ex a b c = false) → lv_has ls 5 [(0, .ref (tA 0)), (1, .int (iv a)), (2, .int (iv b)), (3, .int (iv c))] → va_P (dC, dI) vwCl (wT cI cZ cG cR tA pr0 pr1 pr2 pr3 pr4 pr5 pr6 t1 t2 ex pt pn tc) H → va_D A0 (wT cI cZ cG cR tA pr0 pr1 pr2 pr3 pr4 pr5 pr6 t1 t2 ex pt pn tc) → va_S A0 s0.heap H locs → W p0 l e0 R0 s0 m0 a0 b0 t0 c0 H locs 0 0 Q0 (F0 m0 62 ls []) := by
        intro  ls H locs h62 hl hP hD hS
        refine jv_iinc (pc := 62) (k := 3) (x := c) (n := 1) (lv' := [(3, .int (iv (c + 1))), (0, .ref (tA 0)), (1, .int (iv a)), (2, .int (iv b))]) gX gB dT_joinOf_62 hl rfl (by decide) rfl (fun ls hl => ?_)
        refine lv_goto (pc := 65) (tgt := 2) gX gB dT_joinOf_65 (by decide) ?_
        exact ih2 (c + 1) _ _ _ (by omega) (by exact all_succ hq h62) (by omega) (lv_sub hl [1, 2, 3, 0] rfl) hP hD hS
      have cut33 : ∀ (mb : Int) (ls : Array Slot) (H : Heap) (locs : List Loc), ((mb = 1 ∧ t1 c = a ∧ t2 c = b) ∨ (mb = 0 ∧ ¬ (t1 c = a ∧ t2 c = b))) → lv_has ls 5 [(0, .ref (tA 0)), (1, .int (iv a)), (2, .int (iv b)), (3, .int (iv c))] → va_P (dC, dI) vwCl (wT cI cZ cG cR tA pr0 pr1 pr2 pr3 pr4 pr5 pr6 t1 t2 ex pt pn tc) H → va_D A0 (wT cI cZ cG cR tA pr0 pr1 pr2 pr3 pr4 pr5 pr6 t1 t2 ex pt pn tc) → va_S A0 s0.heap H locs → W p0 l e0 R0 s0 m0 a0 b0 t0 c0 H locs 0 0 Q0 (F0 m0 33 ls [.int (iv mb)]) := by
        intro mb ls H locs hmb hl hP hD hS
        refine lv_istore (pc := 33) (lv' := [(4, .int (iv mb)), (0, .ref (tA 0)), (1, .int (iv a)), (2, .int (iv b)), (3, .int (iv c))]) gX gB dT_joinOf_33 hl (by decide) rfl (fun ls hl => ?_)
        have rgm : -2147483648 ≤ mb ∧ mb < 2147483648 := by rcases hmb with z | z <;> (rw [z.1]; decide)
        refine lv_iload (pc := 35) gX gB dT_joinOf_35 (lv_at hl 0 rfl) ?_
        refine jv_if_eq (pc := 37) (tgt := 62) gX gB dT_joinOf_37 (by decide) rgm (fun h2 => ?_) (fun h2 => ?_)
        · skip
          exact cut62  _ _ _ (by refine decide_eq_false (fun z => ?_); rcases hmb with y | y; omega; exact y.2 ⟨z.1, z.2.1⟩) (lv_sub hl [1, 2, 3, 4] rfl) hP hD hS
        refine lv_aload_n (pc := 40) gX gB dT_joinOf_40 rfl (lv_at hl 1 rfl) ?_
        refine va_get (pc := 41) (D := (dC, dI)) (ci := 1) (v := .ref (tA 1)) (C := RT) (T := TT) (N := 7) gX gB hw0 inT hown hK hP 0 rfl rfl 0 (by decide) (hw0 _ q64) (fun _ h9 => h9) rfl dT_joinOf_41 ?_
        refine lv_iconst (pc := 44) (v := iv 0) gX gB dT_joinOf_44 rfl ?_
        refine jv_aald (pc := 45) (v := tA 2) gX gB hK hP 1 2 rfl rfl rfl (by decide) (by decide) rfl dT_joinOf_45 ?_
        refine lv_iload_n (pc := 46) gX gB dT_joinOf_46 rfl (lv_at hl 4 rfl) ?_
        refine jv_iald (pc := 47) gX gB hK hP 2 0 rfl rfl (by decide) (by omega) dT_joinOf_47 ?_
        refine jv_if_ne (pc := 48) (tgt := 62) gX gB dT_joinOf_48 (by decide) (by omega) (fun h3 => ?_) (fun h3 => ?_)
        · skip
          exact cut62  _ _ _ (by exact decide_eq_false (fun z => absurd z.2.2.1 (by assumption))) (lv_sub hl [1, 2, 3, 4] rfl) hP hD hS
        refine lv_aload_n (pc := 51) gX gB dT_joinOf_51 rfl (lv_at hl 1 rfl) ?_
        refine va_get (pc := 52) (D := (dC, dI)) (ci := 1) (v := .ref (tA 11)) (C := RT) (T := TT) (N := 7) gX gB hw0 inT hown hK hP 0 rfl rfl 3 (by decide) (hw0 _ q67) (fun _ h9 => h9) rfl dT_joinOf_52 ?_
        refine lv_iload_n (pc := 55) gX gB dT_joinOf_55 rfl (lv_at hl 4 rfl) ?_
        refine jv_zald (pc := 56) gX gB hK hP 11 1 rfl rfl (by decide) (by omega) dT_joinOf_56 ?_
        refine jv_if_ne (pc := 57) (tgt := 62) gX gB dT_joinOf_57 (by decide) (by omega) (fun h4 => ?_) (fun h4 => ?_)
        · skip
          exact cut62  _ _ _ (by exact decide_eq_false (fun z => absurd z.2.2.2 (by assumption))) (lv_sub hl [1, 2, 3, 4] rfl) hP hD hS
        refine lv_iload_n (pc := 60) gX gB dT_joinOf_60 rfl (lv_at hl 4 rfl) ?_
        exact hret _ (c) dT_joinOf_61 ⟨rfl, by have e : jokC pr0 t1 t2 ex a b c = true := (by refine decide_eq_true ?_; rcases hmb with y | y; (exact ⟨y.2.1, y.2.2, by assumption, by assumption⟩); exact absurd y.1 (by assumption)); exact ⟨fsx_uniq (by omega) (Or.inr ⟨by omega, by omega, e, hq⟩), by omega, by omega⟩⟩ hP hD hS
      refine lv_aload_n (pc := 8) gX gB dT_joinOf_8 rfl (lv_at hl 0 rfl) ?_
      refine va_get (pc := 9) (D := (dC, dI)) (ci := 1) (v := .ref (tA 9)) (C := RT) (T := TT) (N := 7) gX gB hw0 inT hown hK hP 0 rfl rfl 1 (by decide) (hw0 _ q65) (fun _ h9 => h9) rfl dT_joinOf_9 ?_
      refine lv_iload_n (pc := 12) gX gB dT_joinOf_12 rfl (lv_at hl 3 rfl) ?_
      refine jv_iald (pc := 13) gX gB hK hP 9 0 rfl rfl (by decide) (by omega) dT_joinOf_13 ?_
      refine lv_iload_n (pc := 14) gX gB dT_joinOf_14 rfl (lv_at hl 1 rfl) ?_
      refine jv_icmp_ne (pc := 15) (tgt := 32) gX gB dT_joinOf_15 (by decide) (by omega) (by omega) (fun h5 => ?_) (fun h5 => ?_)
      · skip
        refine lv_iconst (pc := 32) (v := iv 0) gX gB dT_joinOf_32 rfl ?_
        exact cut33 0 _ _ _ (by exact Or.inr ⟨rfl, fun z => by first | exact absurd z.1 (by assumption) | exact absurd z.2 (by assumption)⟩) hl hP hD hS
      refine lv_aload_n (pc := 18) gX gB dT_joinOf_18 rfl (lv_at hl 0 rfl) ?_
      refine va_get (pc := 19) (D := (dC, dI)) (ci := 1) (v := .ref (tA 10)) (C := RT) (T := TT) (N := 7) gX gB hw0 inT hown hK hP 0 rfl rfl 2 (by decide) (hw0 _ q66) (fun _ h9 => h9) rfl dT_joinOf_19 ?_
      refine lv_iload_n (pc := 22) gX gB dT_joinOf_22 rfl (lv_at hl 3 rfl) ?_
      refine jv_iald (pc := 23) gX gB hK hP 10 0 rfl rfl (by decide) (by omega) dT_joinOf_23 ?_
      refine lv_iload_n (pc := 24) gX gB dT_joinOf_24 rfl (lv_at hl 2 rfl) ?_
      refine jv_icmp_ne (pc := 25) (tgt := 32) gX gB dT_joinOf_25 (by decide) (by omega) (by omega) (fun h6 => ?_) (fun h6 => ?_)
      · skip
        refine lv_iconst (pc := 32) (v := iv 0) gX gB dT_joinOf_32 rfl ?_
        exact cut33 0 _ _ _ (by exact Or.inr ⟨rfl, fun z => by first | exact absurd z.1 (by assumption) | exact absurd z.2 (by assumption)⟩) hl hP hD hS
      refine lv_iconst (pc := 28) (v := iv 1) gX gB dT_joinOf_28 rfl ?_
      refine lv_goto (pc := 29) (tgt := 33) gX gB dT_joinOf_29 (by decide) ?_
      exact cut33 1 _ _ _ (by exact Or.inl ⟨rfl, by assumption, by assumption⟩) hl hP hD hS
  exact cut2 (((75 - 0 : Int).toNat) + 1) 0 _ _ _ (by omega) (by intro j x y; omega) (Nat.lt_succ_self _) (lv_sub hl [1, 2, 3, 0] rfl) hP hD hS
