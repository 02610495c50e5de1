set_option maxRecDepth 100000 in
set_option maxHeartbeats 1000000 in
theorem c_S_levelOf (l : Launch) (dC : Nat → ClassId) (dI : Nat → Nat → Nat) (cI : ClassId) (cZ : ClassId) (cG : ClassId) (cR : ClassId) (sA : Nat → Nat) (kd : Int → Int) (lw : Int → Int) (od : Int → Int) (sz : Nat) (i : Int) (hi : 0 ≤ i ∧ i < 40) : Met l yS_levelOf wsS_levelOf ({ frames := 0, cells := 0, slots := 0, locals := 0 }) (va_Pc [.ref (sA 0), .int (iv i)] (jPre (dC, dI) (jT cI cZ cG cR) (wS cI cZ cG cR sA kd lw od) sz)) (va_Qi (fun (r0 : Int32) (u : Int) => r0 = iv u ∧ (u = lw i)) (fun u => jEnd (dC, dI) (jT cI cZ cG cR) (va_A (wS cI cZ cG cR sA kd lw od) sz) (wS cI cZ cG cR sA kd lw od)) (va_A (wS cI cZ cG cR sA kd lw od) sz)) 0 0 (va_A (wS cI cZ cG cR sA kd lw od) sz) := by
  refine jv_mi (cc := cS_levelOf) (maxL := 2) (by decide) rfl (Nat.le_of_ble_eq_true rfl) ?_
  intro p0 e0 s0 m0 a0 b0 t0 c0 R0 Q0 A0 ls gX gB hts hown hml hRf hRl hA hK hret hl hP hD hS
  have hown : s0.vm.findClass "TextPipeline$Sides" = some m0.cls := hown
  have hw0 : ∀ w ∈ WS0, w.before a0 s0 = true := fun w h => hts w (List.mem_cons_of_mem _ h)
  have hl : lv_has ls 2 [(0, .ref (sA 0)), (1, .int (iv i))] := hl
  have hRf : 0 ≤ R0.frames := hRf
  have hRl : 0 ≤ R0.locals := hRl
  refine lv_aload_n (pc := 0) gX gB dS_levelOf_0 rfl (lv_at hl 0 rfl) ?_
  refine va_get (pc := 1) (D := (dC, dI)) (ci := 4) (v := .ref (sA 2)) (C := RS) (T := TS) (N := 3) gX gB hw0 inS hown hK hP 0 rfl rfl 1 (by decide) (hw0 _ q119) (fun _ h9 => h9) rfl dS_levelOf_1 ?_
  refine lv_iload_n (pc := 4) gX gB dS_levelOf_4 rfl (lv_at hl 1 rfl) ?_
  refine jv_iald (pc := 5) gX gB hK hP 2 0 rfl rfl (by decide) (by omega) dS_levelOf_5 ?_
  exact hret _ (lw i) dS_levelOf_6 ⟨rfl, by rfl⟩ hP hD hS
set_option maxRecDepth 100000 in
set_option maxHeartbeats 1000000 in
theorem c_S_readAs (l : Launch) (dC : Nat → ClassId) (dI : Nat → Nat → Nat) (cI : ClassId) (cZ : ClassId) (cG : ClassId) (cR : ClassId) (sA : Nat → Nat) (kd : Int → Int) (lw : Int → Int) (od : Int → Int) (sz : Nat) (i : Int) (hi : 0 ≤ i ∧ i < 40) : Met l yS_readAs wsS_readAs ({ frames := 0, cells := 0, slots := 0, locals := 0 }) (va_Pc [.ref (sA 0), .int (iv i)] (jPre (dC, dI) (jT cI cZ cG cR) (wS cI cZ cG cR sA kd lw od) sz)) (va_Qi (fun (r0 : Int32) (u : Int) => r0 = iv u ∧ (u = od i)) (fun u => jEnd (dC, dI) (jT cI cZ cG cR) (va_A (wS cI cZ cG cR sA kd lw od) sz) (wS cI cZ cG cR sA kd lw od)) (va_A (wS cI cZ cG cR sA kd lw od) sz)) 0 0 (va_A (wS cI cZ cG cR sA kd lw od) sz) := by
  refine jv_mi (cc := cS_readAs) (maxL := 2) (by decide) rfl (Nat.le_of_ble_eq_true rfl) ?_
  intro p0 e0 s0 m0 a0 b0 t0 c0 R0 Q0 A0 ls gX gB hts hown hml hRf hRl hA hK hret hl hP hD hS
  have hown : s0.vm.findClass "TextPipeline$Sides" = some m0.cls := hown
  have hw0 : ∀ w ∈ WS0, w.before a0 s0 = true := fun w h => hts w (List.mem_cons_of_mem _ h)
  have hl : lv_has ls 2 [(0, .ref (sA 0)), (1, .int (iv i))] := hl
  have hRf : 0 ≤ R0.frames := hRf
  have hRl : 0 ≤ R0.locals := hRl
  refine lv_aload_n (pc := 0) gX gB dS_readAs_0 rfl (lv_at hl 0 rfl) ?_
  refine va_get (pc := 1) (D := (dC, dI)) (ci := 4) (v := .ref (sA 3)) (C := RS) (T := TS) (N := 3) gX gB hw0 inS hown hK hP 0 rfl rfl 2 (by decide) (hw0 _ q120) (fun _ h9 => h9) rfl dS_readAs_1 ?_
  refine lv_iload_n (pc := 4) gX gB dS_readAs_4 rfl (lv_at hl 1 rfl) ?_
  refine jv_iald (pc := 5) gX gB hK hP 3 0 rfl rfl (by decide) (by omega) dS_readAs_5 ?_
  exact hret _ (od i) dS_readAs_6 ⟨rfl, by rfl⟩ hP hD hS
set_option maxRecDepth 100000 in
set_option maxHeartbeats 1000000 in
theorem c_S_isLetter (l : Launch) (dC : Nat → ClassId) (dI : Nat → Nat → Nat) (cI : ClassId) (cZ : ClassId) (cG : ClassId) (cR : ClassId)  (sz : Nat) (k : Int) (hk : 0 ≤ k ∧ k ≤ 11) : Met l yS_isLetter wsS_isLetter ({ frames := 0, cells := 0, slots := 0, locals := 0 }) (va_Pc [.int (iv k)] (jPre (dC, dI) (jT cI cZ cG cR) (wE cI cZ cG cR) sz)) (va_Qi (fun (r0 : Int32) (u : Int) => r0 = iv u ∧ ((u = 0 ∨ u = 1) ∧ (u = 1 ↔ (k ≤ 2)))) (fun u => jEnd (dC, dI) (jT cI cZ cG cR) (va_A (wE cI cZ cG cR) sz) (wE cI cZ cG cR)) (va_A (wE cI cZ cG cR) sz)) 0 0 (va_A (wE cI cZ cG cR) sz) := by
  refine jv_mz (cc := cS_isLetter) (maxL := 1) (by decide) rfl (Nat.le_of_ble_eq_true rfl) ?_
  intro p0 e0 s0 m0 a0 b0 t0 c0 R0 Q0 A0 ls gX gB hts hown hml hRf hRl hA hK hret hl hP hD hS
  have hown : s0.vm.findClass "TextPipeline$Sides" = some m0.cls := hown
  have hw0 : ∀ w ∈ WS0, w.before a0 s0 = true := fun w h => hts w (List.mem_cons_of_mem _ h)
  have hl : lv_has ls 1 [(0, .int (iv k))] := hl
  have hRf : 0 ≤ R0.frames := hRf
  have hRl : 0 ≤ R0.locals := hRl
  refine lv_iload_n (pc := 0) gX gB dS_isLetter_0 rfl (lv_at hl 0 rfl) ?_
  refine jv_if_eq (pc := 1) (tgt := 14) gX gB dS_isLetter_1 (by decide) (by omega) (fun h1 => ?_) (fun h1 => ?_)
  · skip
    refine lv_iconst (pc := 14) (v := iv 1) gX gB dS_isLetter_14 rfl ?_
    refine lv_goto (pc := 15) (tgt := 19) gX gB dS_isLetter_15 (by decide) ?_
    exact hret _ (1) dS_isLetter_19 (Or.inr rfl) ⟨rfl, by omega⟩ hP hD hS
  refine lv_iload_n (pc := 4) gX gB dS_isLetter_4 rfl (lv_at hl 0 rfl) ?_
  refine lv_iconst (pc := 5) (v := iv 1) gX gB dS_isLetter_5 rfl ?_
  refine jv_icmp_eq (pc := 6) (tgt := 14) gX gB dS_isLetter_6 (by decide) (by omega) (by decide) (fun h2 => ?_) (fun h2 => ?_)
  · skip
    refine lv_iconst (pc := 14) (v := iv 1) gX gB dS_isLetter_14 rfl ?_
    refine lv_goto (pc := 15) (tgt := 19) gX gB dS_isLetter_15 (by decide) ?_
    exact hret _ (1) dS_isLetter_19 (Or.inr rfl) ⟨rfl, by omega⟩ hP hD hS
  refine lv_iload_n (pc := 9) gX gB dS_isLetter_9 rfl (lv_at hl 0 rfl) ?_
  refine lv_iconst (pc := 10) (v := iv 2) gX gB dS_isLetter_10 rfl ?_
  refine jv_icmp_ne (pc := 11) (tgt := 18) gX gB dS_isLetter_11 (by decide) (by omega) (by decide) (fun h3 => ?_) (fun h3 => ?_)
  · skip
    refine lv_iconst (pc := 18) (v := iv 0) gX gB dS_isLetter_18 rfl ?_
    exact hret _ (0) dS_isLetter_19 (Or.inl rfl) ⟨rfl, by omega⟩ hP hD hS
  refine lv_iconst (pc := 14) (v := iv 1) gX gB dS_isLetter_14 rfl ?_
  refine lv_goto (pc := 15) (tgt := 19) gX gB dS_isLetter_15 (by decide) ?_
  exact hret _ (1) dS_isLetter_19 (Or.inr rfl) ⟨rfl, by omega⟩ hP hD hS
set_option maxRecDepth 100000 in
set_option maxHeartbeats 1000000 in
theorem c_S_isNeutral (l : Launch) (dC : Nat → ClassId) (dI : Nat → Nat → Nat) (cI : ClassId) (cZ : ClassId) (cG : ClassId) (cR : ClassId)  (sz : Nat) (k : Int) (hk : 0 ≤ k ∧ k ≤ 11) : Met l yS_isNeutral wsS_isNeutral ({ frames := 0, cells := 0, slots := 0, locals := 0 }) (va_Pc [.int (iv k)] (jPre (dC, dI) (jT cI cZ cG cR) (wE cI cZ cG cR) sz)) (va_Qi (fun (r0 : Int32) (u : Int) => r0 = iv u ∧ ((u = 0 ∨ u = 1) ∧ (u = 1 ↔ (8 < k)))) (fun u => jEnd (dC, dI) (jT cI cZ cG cR) (va_A (wE cI cZ cG cR) sz) (wE cI cZ cG cR)) (va_A (wE cI cZ cG cR) sz)) 0 0 (va_A (wE cI cZ cG cR) sz) := by
  refine jv_mz (cc := cS_isNeutral) (maxL := 1) (by decide) rfl (Nat.le_of_ble_eq_true rfl) ?_
  intro p0 e0 s0 m0 a0 b0 t0 c0 R0 Q0 A0 ls gX gB hts hown hml hRf hRl hA hK hret hl hP hD hS
  have hown : s0.vm.findClass "TextPipeline$Sides" = some m0.cls := hown
  have hw0 : ∀ w ∈ WS0, w.before a0 s0 = true := fun w h => hts w (List.mem_cons_of_mem _ h)
  have hl : lv_has ls 1 [(0, .int (iv k))] := hl
  have hRf : 0 ≤ R0.frames := hRf
  have hRl : 0 ≤ R0.locals := hRl
  refine lv_iload_n (pc := 0) gX gB dS_isNeutral_0 rfl (lv_at hl 0 rfl) ?_
  refine lv_bipush (pc := 1) (v := iv 9) gX gB dS_isNeutral_1 (by decide) ?_
  refine jv_icmp_eq (pc := 3) (tgt := 18) gX gB dS_isNeutral_3 (by decide) (by omega) (by decide) (fun h1 => ?_) (fun h1 => ?_)
  · skip
    refine lv_iconst (pc := 18) (v := iv 1) gX gB dS_isNeutral_18 rfl ?_
    refine lv_goto (pc := 19) (tgt := 23) gX gB dS_isNeutral_19 (by decide) ?_
    exact hret _ (1) dS_isNeutral_23 (Or.inr rfl) ⟨rfl, by omega⟩ hP hD hS
  refine lv_iload_n (pc := 6) gX gB dS_isNeutral_6 rfl (lv_at hl 0 rfl) ?_
  refine lv_bipush (pc := 7) (v := iv 10) gX gB dS_isNeutral_7 (by decide) ?_
  refine jv_icmp_eq (pc := 9) (tgt := 18) gX gB dS_isNeutral_9 (by decide) (by omega) (by decide) (fun h2 => ?_) (fun h2 => ?_)
  · skip
    refine lv_iconst (pc := 18) (v := iv 1) gX gB dS_isNeutral_18 rfl ?_
    refine lv_goto (pc := 19) (tgt := 23) gX gB dS_isNeutral_19 (by decide) ?_
    exact hret _ (1) dS_isNeutral_23 (Or.inr rfl) ⟨rfl, by omega⟩ hP hD hS
  refine lv_iload_n (pc := 12) gX gB dS_isNeutral_12 rfl (lv_at hl 0 rfl) ?_
  refine lv_bipush (pc := 13) (v := iv 11) gX gB dS_isNeutral_13 (by decide) ?_
  refine jv_icmp_ne (pc := 15) (tgt := 22) gX gB dS_isNeutral_15 (by decide) (by omega) (by decide) (fun h3 => ?_) (fun h3 => ?_)
  · skip
    refine lv_iconst (pc := 22) (v := iv 0) gX gB dS_isNeutral_22 rfl ?_
    exact hret _ (0) dS_isNeutral_23 (Or.inl rfl) ⟨rfl, by omega⟩ hP hD hS
  refine lv_iconst (pc := 18) (v := iv 1) gX gB dS_isNeutral_18 rfl ?_
  refine lv_goto (pc := 19) (tgt := 23) gX gB dS_isNeutral_19 (by decide) ?_
  exact hret _ (1) dS_isNeutral_23 (Or.inr rfl) ⟨rfl, by omega⟩ hP hD hS
set_option maxRecDepth 100000 in
set_option maxHeartbeats 1000000 in
theorem c_S_readsRight (l : Launch) (dC : Nat → ClassId) (dI : Nat → Nat → Nat) (cI : ClassId) (cZ : ClassId) (cG : ClassId) (cR : ClassId)  (sz : Nat) (k : Int) (hk : 0 ≤ k ∧ k ≤ 11) : Met l yS_readsRight wsS_readsRight ({ frames := 0, cells := 0, slots := 0, locals := 0 }) (va_Pc [.int (iv k)] (jPre (dC, dI) (jT cI cZ cG cR) (wE cI cZ cG cR) sz)) (va_Qi (fun (r0 : Int32) (u : Int) => r0 = iv u ∧ ((u = 0 ∨ u = 1) ∧ (u = 1 ↔ (k = 1 ∨ k = 3 ∨ k = 6)))) (fun u => jEnd (dC, dI) (jT cI cZ cG cR) (va_A (wE cI cZ cG cR) sz) (wE cI cZ cG cR)) (va_A (wE cI cZ cG cR) sz)) 0 0 (va_A (wE cI cZ cG cR) sz) := by
  refine jv_mz (cc := cS_readsRight) (maxL := 1) (by decide) rfl (Nat.le_of_ble_eq_true rfl) ?_
  intro p0 e0 s0 m0 a0 b0 t0 c0 R0 Q0 A0 ls gX gB hts hown hml hRf hRl hA hK hret hl hP hD hS
  have hown : s0.vm.findClass "TextPipeline$Sides" = some m0.cls := hown
  have hw0 : ∀ w ∈ WS0, w.before a0 s0 = true := fun w h => hts w (List.mem_cons_of_mem _ h)
  have hl : lv_has ls 1 [(0, .int (iv k))] := hl
  have hRf : 0 ≤ R0.frames := hRf
  have hRl : 0 ≤ R0.locals := hRl
  refine lv_iload_n (pc := 0) gX gB dS_readsRight_0 rfl (lv_at hl 0 rfl) ?_
  refine lv_iconst (pc := 1) (v := iv 1) gX gB dS_readsRight_1 rfl ?_
  refine jv_icmp_eq (pc := 2) (tgt := 16) gX gB dS_readsRight_2 (by decide) (by omega) (by decide) (fun h1 => ?_) (fun h1 => ?_)
  · skip
    refine lv_iconst (pc := 16) (v := iv 1) gX gB dS_readsRight_16 rfl ?_
    refine lv_goto (pc := 17) (tgt := 21) gX gB dS_readsRight_17 (by decide) ?_
    exact hret _ (1) dS_readsRight_21 (Or.inr rfl) ⟨rfl, by omega⟩ hP hD hS
  refine lv_iload_n (pc := 5) gX gB dS_readsRight_5 rfl (lv_at hl 0 rfl) ?_
  refine lv_iconst (pc := 6) (v := iv 3) gX gB dS_readsRight_6 rfl ?_
  refine jv_icmp_eq (pc := 7) (tgt := 16) gX gB dS_readsRight_7 (by decide) (by omega) (by decide) (fun h2 => ?_) (fun h2 => ?_)
  · skip
    refine lv_iconst (pc := 16) (v := iv 1) gX gB dS_readsRight_16 rfl ?_
    refine lv_goto (pc := 17) (tgt := 21) gX gB dS_readsRight_17 (by decide) ?_
    exact hret _ (1) dS_readsRight_21 (Or.inr rfl) ⟨rfl, by omega⟩ hP hD hS
  refine lv_iload_n (pc := 10) gX gB dS_readsRight_10 rfl (lv_at hl 0 rfl) ?_
  refine lv_bipush (pc := 11) (v := iv 6) gX gB dS_readsRight_11 (by decide) ?_
  refine jv_icmp_ne (pc := 13) (tgt := 20) gX gB dS_readsRight_13 (by decide) (by omega) (by decide) (fun h3 => ?_) (fun h3 => ?_)
  · skip
    refine lv_iconst (pc := 20) (v := iv 0) gX gB dS_readsRight_20 rfl ?_
    exact hret _ (0) dS_readsRight_21 (Or.inl rfl) ⟨rfl, by omega⟩ hP hD hS
  refine lv_iconst (pc := 16) (v := iv 1) gX gB dS_readsRight_16 rfl ?_
  refine lv_goto (pc := 17) (tgt := 21) gX gB dS_readsRight_17 (by decide) ?_
  exact hret _ (1) dS_readsRight_21 (Or.inr rfl) ⟨rfl, by omega⟩ hP hD hS
set_option maxRecDepth 100000 in
set_option maxHeartbeats 1000000 in
theorem c_S_levelFor (l : Launch) (dC : Nat → ClassId) (dI : Nat → Nat → Nat) (cI : ClassId) (cZ : ClassId) (cG : ClassId) (cR : ClassId)  (sz : Nat) (k : Int) (b : Int) (hk : 0 ≤ k ∧ k ≤ 11) (hb9 : b = 0 ∨ b = 1) : Met l yS_levelFor wsS_levelFor ({ frames := 0, cells := 0, slots := 0, locals := 0 }) (va_Pc [.int (iv k), .int (iv b)] (jPre (dC, dI) (jT cI cZ cG cR) (wE cI cZ cG cR) sz)) (va_Qi (fun (r0 : Int32) (u : Int) => r0 = iv u ∧ (u = lv0 b k)) (fun u => jEnd (dC, dI) (jT cI cZ cG cR) (va_A (wE cI cZ cG cR) sz) (wE cI cZ cG cR)) (va_A (wE cI cZ cG cR) sz)) 0 0 (va_A (wE cI cZ cG cR) sz) := by
  refine jv_mi (cc := cS_levelFor) (maxL := 2) (by decide) rfl (Nat.le_of_ble_eq_true rfl) ?_
  intro p0 e0 s0 m0 a0 b0 t0 c0 R0 Q0 A0 ls gX gB hts hown hml hRf hRl hA hK hret hl hP hD hS
  have hown : s0.vm.findClass "TextPipeline$Sides" = some m0.cls := hown
  have hw0 : ∀ w ∈ WS0, w.before a0 s0 = true := fun w h => hts w (List.mem_cons_of_mem _ h)
  have hl : lv_has ls 2 [(0, .int (iv k)), (1, .int (iv b))] := hl
  have hRf : 0 ≤ R0.frames := hRf
  have hRl : 0 ≤ R0.locals := hRl
  refine lv_iload_n (pc := 0) gX gB dS_levelFor_0 rfl (lv_at hl 0 rfl) ?_
  refine lv_iconst (pc := 1) (v := iv 1) gX gB dS_levelFor_1 rfl ?_
  refine jv_icmp_ne (pc := 2) (tgt := 7) gX gB dS_levelFor_2 (by decide) (by omega) (by decide) (fun h1 => ?_) (fun h1 => ?_)
  · skip
    refine lv_iload_n (pc := 7) gX gB dS_levelFor_7 rfl (lv_at hl 0 rfl) ?_
    refine jv_if_ne (pc := 8) (tgt := 19) gX gB dS_levelFor_8 (by decide) (by omega) (fun h2 => ?_) (fun h2 => ?_)
    · skip
      refine lv_iconst (pc := 19) (v := iv 2) gX gB dS_levelFor_19 rfl ?_
      exact hret _ (2) dS_levelFor_20 ⟨rfl, by unfold lv0; rcases hb9 with z | z; (rw [if_pos z]; first | (rw [if_pos (by omega)]; omega) | (rw [if_neg (by omega)]) | (exfalso; omega)); (rw [if_neg (by omega), if_neg (by omega)]; try omega)⟩ hP hD hS
    refine lv_iload_n (pc := 11) gX gB dS_levelFor_11 rfl (lv_at hl 1 rfl) ?_
    refine jv_if_ne (pc := 12) (tgt := 19) gX gB dS_levelFor_12 (by decide) (by omega) (fun h3 => ?_) (fun h3 => ?_)
    · skip
      refine lv_iconst (pc := 19) (v := iv 2) gX gB dS_levelFor_19 rfl ?_
      exact hret _ (2) dS_levelFor_20 ⟨rfl, by unfold lv0; rcases hb9 with z | z; (rw [if_pos z]; first | (rw [if_pos (by omega)]; omega) | (rw [if_neg (by omega)]) | (exfalso; omega)); (rw [if_neg (by omega), if_neg (by omega)]; try omega)⟩ hP hD hS
    refine lv_iconst (pc := 15) (v := iv 0) gX gB dS_levelFor_15 rfl ?_
    refine lv_goto (pc := 16) (tgt := 20) gX gB dS_levelFor_16 (by decide) ?_
    exact hret _ (0) dS_levelFor_20 ⟨rfl, by unfold lv0; rcases hb9 with z | z; (rw [if_pos z]; first | (rw [if_pos (by omega)]; omega) | (rw [if_neg (by omega)]) | (exfalso; omega)); (rw [if_neg (by omega), if_neg (by omega)]; try omega)⟩ hP hD hS
  refine lv_iconst (pc := 5) (v := iv 1) gX gB dS_levelFor_5 rfl ?_
  exact hret _ (1) dS_levelFor_6 ⟨rfl, by unfold lv0; rcases hb9 with z | z; (rw [if_pos z, if_pos (by omega)]; omega); (rw [if_neg (by omega), if_pos (by omega)])⟩ hP hD hS
set_option maxRecDepth 100000 in
set_option maxHeartbeats 1000000 in
theorem c_S_fillKinds (l : Launch) (dC : Nat → ClassId) (dI : Nat → Nat → Nat) (cI : ClassId) (cZ : ClassId) (cG : ClassId) (cR : ClassId) (sA : Nat → Nat) (kd : Int → Int) (lw : Int → Int) (od : Int → Int) (sz : Nat) (st : Int) (en : Int) (v : Int) (hse : 0 ≤ st ∧ st ≤ en ∧ en ≤ 42) : Met l yS_fillKinds wsS_fillKinds ({ frames := 0, cells := 0, slots := 0, locals := 0 }) (va_Pc [.ref (sA 0), .int (iv st), .int (iv en), .int (iv v)] (jPre (dC, dI) (jT cI cZ cG cR) (wS cI cZ cG cR sA kd lw od) sz)) (va_Qv (fun u : (Int → Int) => ∀ j, u j = if st ≤ j ∧ j < en then v else kd j) (fun u => jEnd (dC, dI) (jT cI cZ cG cR) (va_A (wS cI cZ cG cR sA kd lw od) sz) (wS cI cZ cG cR sA u lw od)) (va_A (wS cI cZ cG cR sA kd lw od) sz)) 0 0 (va_A (wS cI cZ cG cR sA kd lw od) sz) := by
  refine jv_mv (cc := cS_fillKinds) (maxL := 5) (by decide) rfl (Nat.le_of_ble_eq_true rfl) ?_
  intro p0 e0 s0 m0 a0 b0 t0 c0 R0 Q0 A0 ls gX gB hts hown hml hRf hRl hA hK hret hl hP hD hS
  have hown : s0.vm.findClass "TextPipeline$Sides" = some m0.cls := hown
  have hw0 : ∀ w ∈ WS0, w.before a0 s0 = true := fun w h => hts w (List.mem_cons_of_mem _ h)
  have hl : lv_has ls 5 [(0, .ref (sA 0)), (1, .int (iv st)), (2, .int (iv en)), (3, .int (iv v))] := hl
  have hRf : 0 ≤ R0.frames := hRf
  have hRl : 0 ≤ R0.locals := hRl
  refine lv_iload_n (pc := 0) gX gB dS_fillKinds_0 rfl (lv_at hl 1 rfl) ?_
  refine lv_istore (pc := 1) (lv' := [(4, .int (iv st)), (0, .ref (sA 0)), (1, .int (iv st)), (2, .int (iv en)), (3, .int (iv v))]) gX gB dS_fillKinds_1 hl (by decide) rfl (fun ls hl => ?_)
  have cut3 : ∀ (n0 : Nat) (k : Int) (g : Int → Int) (ls : Array Slot) (H : Heap) (locs : List Loc), (st ≤ k ∧ k ≤ en) → (∀ j, g j = if st ≤ j ∧ j < k then v else kd j) → ((en - k : Int).toNat < n0) → lv_has ls 5 [(0, .ref (sA 0)), (1, .int (iv st)), (2, .int (iv en)), (3, .int (iv v)), (4, .int (iv k))] → va_P (dC, dI) vwCl (wS cI cZ cG cR sA g lw od) H → va_D A0 (wS cI cZ cG cR sA g lw od) → va_S A0 s0.heap H locs → W p0 l e0 R0 s0 m0 a0 b0 t0 c0 H locs 0 0 Q0 (F0 m0 3 ls []) := by
    intro n0
    induction n0 with
    | zero => intro k g ls H locs hk hg hm hl hP hD hS; exact absurd hm (Nat.not_lt_zero _)
    | succ n0 ih3 =>
      intro k g ls H locs hk hg hm3 hl hP hD hS
      refine lv_iload (pc := 3) gX gB dS_fillKinds_3 (lv_at hl 4 rfl) ?_
      refine lv_iload_n (pc := 5) gX gB dS_fillKinds_5 rfl (lv_at hl 2 rfl) ?_
      refine jv_icmp_ge (pc := 6) (tgt := 23) gX gB dS_fillKinds_6 (by decide) (by omega) (by omega) (fun h1 => ?_) (fun h1 => ?_)
      · skip
        exact hret (g) dS_fillKinds_23 (by intro j; rw [hg j, show k = en by omega]) hP hD hS
      refine lv_aload_n (pc := 9) gX gB dS_fillKinds_9 rfl (lv_at hl 0 rfl) ?_
      refine va_get (pc := 10) (D := (dC, dI)) (ci := 4) (v := .ref (sA 1)) (C := RS) (T := TS) (N := 3) gX gB hw0 inS hown hK hP 0 rfl rfl 0 (by decide) (hw0 _ q118) (fun _ h9 => h9) rfl dS_fillKinds_10 ?_
      refine lv_iload (pc := 13) gX gB dS_fillKinds_13 (lv_at hl 4 rfl) ?_
      refine lv_iload_n (pc := 15) gX gB dS_fillKinds_15 rfl (lv_at hl 3 rfl) ?_
      refine jv_iast (pc := 16) (ws' := (wS cI cZ cG cR sA (uI g k v) lw od)) gX gB hK hP hD hS 1 0 rfl rfl (by decide) (by omega) dS_fillKinds_16 rfl (fun H locs hP hD hS => ?_)
      refine jv_iinc (pc := 17) (k := 4) (x := k) (n := 1) (lv' := [(4, .int (iv (k + 1))), (0, .ref (sA 0)), (1, .int (iv st)), (2, .int (iv en)), (3, .int (iv v))]) gX gB dS_fillKinds_17 hl rfl (by decide) rfl (fun ls hl => ?_)
      refine lv_goto (pc := 20) (tgt := 3) gX gB dS_fillKinds_20 (by decide) ?_
      exact ih3 (k + 1) (uI g k v) _ _ _ (by omega) (by intro j; by_cases e : j = k; (rw [uI_e e, if_pos ⟨by omega, by omega⟩]); (rw [uI_n e, hg j]; by_cases c : st ≤ j ∧ j < k; (rw [if_pos c, if_pos ⟨c.1, by omega⟩]); (rw [if_neg c, if_neg (fun z => c ⟨z.1, by omega⟩)]))) (by omega) (lv_sub hl [1, 2, 3, 4, 0] rfl) hP hD hS
  exact cut3 (((en - st : Int).toNat) + 1) st kd _ _ _ (by omega) (by intro j; rw [if_neg (by omega)]) (Nat.lt_succ_self _) (lv_sub hl [1, 2, 3, 4, 0] rfl) hP hD hS
set_option maxRecDepth 100000 in
set_option maxHeartbeats 1000000 in
theorem c_S_baseOf (l : Launch) (dC : Nat → ClassId) (dI : Nat → Nat → Nat) (cI : ClassId) (cZ : ClassId) (cG : ClassId) (cR : ClassId) (tA : Nat → Nat) (pr0 : Int → Int) (pr1 : Int → Int) (pr2 : Int → Int) (pr3 : Int → Int) (pr4 : Int → Int) (pr5 : Int → Int) (pr6 : Int → Int) (t1 : Int → Int) (t2 : Int → Int) (ex : Int → Int) (pt : Int → Int) (pn : Int → Int) (tc : Int → Int) (xa : Nat) (xi : Nat) (xn : Nat) (xs : Int) (xf : Int → Int) (sz : Nat) (hcap : xn < 1000) (hsx : 0 ≤ xs ∧ xs ≤ (xn : Int) ∧ xs ≤ 40) (hxf : ∀ j, 0 ≤ j → j < xs → 0 ≤ xf j ∧ xf j < 75) (hp3 : ∀ c, 0 ≤ c → c < 75 → 0 ≤ pr3 c ∧ pr3 c ≤ 11) : Met l yS_baseOf wsS_baseOf ({ frames := 1, cells := 0, slots := 0, locals := 21 }) (va_Pc [.ref (tA 0), .ref xa] (jPre (dC, dI) (jT cI cZ cG cR) (wTR cI cZ cG cR tA pr0 pr1 pr2 pr3 pr4 pr5 pr6 t1 t2 ex pt pn tc xa xi xn xs xf) sz)) (va_Qi (fun (r0 : Int32) (u : Int) => r0 = iv u ∧ ((u = 0 ∨ u = 1) ∧ u = fbf pr3 xf xs.toNat 0)) (fun u => jEnd (dC, dI) (jT cI cZ cG cR) (va_A (wTR cI cZ cG cR tA pr0 pr1 pr2 pr3 pr4 pr5 pr6 t1 t2 ex pt pn tc xa xi xn xs xf) sz) (wTR cI cZ cG cR tA pr0 pr1 pr2 pr3 pr4 pr5 pr6 t1 t2 ex pt pn tc xa xi xn xs xf)) (va_A (wTR cI cZ cG cR tA pr0 pr1 pr2 pr3 pr4 pr5 pr6 t1 t2 ex pt pn tc xa xi xn xs xf) sz)) 0 0 (va_A (wTR cI cZ cG cR tA pr0 pr1 pr2 pr3 pr4 pr5 pr6 t1 t2 ex pt pn tc xa xi xn xs xf) sz) := by
  refine jv_mi (cc := cS_baseOf) (maxL := 4) (by decide) rfl (Nat.le_of_ble_eq_true rfl) ?_
  intro p0 e0 s0 m0 a0 b0 t0 c0 R0 Q0 A0 ls gX gB hts hown hml hRf hRl hA hK hret hl hP hD hS
  have hown : s0.vm.findClass "TextPipeline$Sides" = some m0.cls := hown
  have hw0 : ∀ w ∈ WS0, w.before a0 s0 = true := fun w h => hts w (List.mem_cons_of_mem _ h)
  have hl : lv_has ls 4 [(0, .ref (tA 0)), (1, .ref xa)] := hl
  have hRf : 1 ≤ R0.frames := hRf
  have hRl : 21 ≤ R0.locals := hRl
  refine lv_iconst (pc := 0) (v := iv 0) gX gB dS_baseOf_0 rfl ?_
  refine lv_istore_n (pc := 1) (lv' := [(2, .int (iv 0)), (0, .ref (tA 0)), (1, .ref xa)]) gX gB dS_baseOf_1 rfl hl (by decide) rfl (fun ls hl => ?_)
  have cut2 : ∀ (n0 : Nat) (i : Int) (ls : Array Slot) (H : Heap) (locs : List Loc), (0 ≤ i ∧ i ≤ xs) → (fbf pr3 xf (xs - i : Int).toNat i = fbf pr3 xf xs.toNat 0) → ((xs - i : Int).toNat < n0) → lv_has ls 4 [(0, .ref (tA 0)), (1, .ref xa), (2, .int (iv i))] → va_P (dC, dI) vwCl (wTR cI cZ cG cR tA pr0 pr1 pr2 pr3 pr4 pr5 pr6 t1 t2 ex pt pn tc xa xi xn xs xf) H → va_D A0 (wTR cI cZ cG cR tA pr0 pr1 pr2 pr3 pr4 pr5 pr6 t1 t2 ex pt pn tc xa xi xn xs xf) → va_S A0 s0.heap H locs → W p0 l e0 R0 s0 m0 a0 b0 t0 c0 H locs 0 0 Q0 (F0 m0 2 ls []) := by
    intro n0
    induction n0 with
    | zero => intro i ls H locs hi hq hm hl hP hD hS; exact absurd hm (Nat.not_lt_zero _)
    | succ n0 ih2 =>
      intro i ls H locs hi hq hm2 hl hP hD hS
      refine lv_iload_n (pc := 2) gX gB dS_baseOf_2 rfl (lv_at hl 2 rfl) ?_
      refine lv_aload_n (pc := 3) gX gB dS_baseOf_3 rfl (lv_at hl 1 rfl) ?_
      refine jv_ri (pc := 4) (wr := [(tA 0, .inr (1, [.ref (tA 1), .ref (tA 9), .ref (tA 10), .ref (tA 11), .ref (tA 12), .ref (tA 13), .ref (tA 14)])), (tA 1, .inl (cG, 7, .inr (.inr (.inr (.inr (rfs [tA 2, tA 3, tA 4, tA 5, tA 6, tA 7, tA 8])))))), (tA 2, .inl (cI, 75, .inl (av pr0))), (tA 3, .inl (cI, 75, .inl (av pr1))), (tA 4, .inl (cI, 75, .inl (av pr2))), (tA 5, .inl (cI, 75, .inl (av pr3))), (tA 6, .inl (cI, 75, .inl (av pr4))), (tA 7, .inl (cI, 75, .inl (av pr5))), (tA 8, .inl (cI, 75, .inl (av pr6))), (tA 9, .inl (cI, 75, .inl (av t1))), (tA 10, .inl (cI, 75, .inl (av t2))), (tA 11, .inl (cZ, 75, .inl (av ex))), (tA 12, .inl (cI, 300, .inl (av pt))), (tA 13, .inl (cI, 75, .inl (av pn))), (tA 14, .inl (cI, 75, .inl (av tc)))]) (wn := fun u : Int => (wTR cI cZ cG cR tA pr0 pr1 pr2 pr3 pr4 pr5 pr6 t1 t2 ex pt pn tc xa xi xn xs xf)) (va_runV (rest := [.int (iv i)]) ⟨gX, gB, hml, hown, hw0⟩ (c_R_size l dC dI cI cZ cG cR xa xi xn xs xf _  ) (jcV hw0 kR_size q517 rfl rfl ⟨Nat.le_trans (Nat.le_of_ble_eq_true rfl) hRf, Nat.le_trans (Nat.le_of_ble_eq_true rfl) hRl⟩) (jv_preV (ci := 2) (q0 := 15) hK hP hD [15, 16] rfl (by decide) rfl rfl) rfl rfl hl.1 rfl (lv_room (Nat.le_of_ble_eq_true rfl)) dS_baseOf_4 ⟨Nat.zero_le _, Nat.zero_le _⟩) hP hD hS hA [15, 16] [0, 1, 2, 3, 4, 5, 6, 7, 8, 9, 10, 11, 12, 13, 14] [0, 1, 2, 3, 4, 5, 6, 7, 8, 9, 10, 11, 12, 13, 14, 15, 16] rfl rfl (by decide) (by decide) (by decide) (fun _ => rfl) (fun r0 u H locs hw4 hP hD hS => ?_)
      obtain ⟨r_4, hu⟩ : ∃ z, z = u := ⟨_, rfl⟩; subst hu
      obtain ⟨rfl, hw4⟩ := hw4
      refine jv_icmp_ge (pc := 7) (tgt := 43) gX gB dS_baseOf_7 (by decide) (by omega) (by omega) (fun h1 => ?_) (fun h1 => ?_)
      · skip
        refine lv_iconst (pc := 43) (v := iv 0) gX gB dS_baseOf_43 rfl ?_
        exact hret _ (0) dS_baseOf_44 ⟨rfl, by refine ⟨Or.inl rfl, ?_⟩; rw [← hq, show xs - i = 0 by omega]; rfl⟩ hP hD hS
      have hxi := hxf i (by omega) (by omega)
      have hci := hp3 _ hxi.1 hxi.2
      have hs9 := fbf_s (sz := pr3) (tx := xf) (d := xs - i) (i := i) (by omega)
      refine lv_aload_n (pc := 10) gX gB dS_baseOf_10 rfl (lv_at hl 0 rfl) ?_
      refine lv_aload_n (pc := 11) gX gB dS_baseOf_11 rfl (lv_at hl 1 rfl) ?_
      refine lv_iload_n (pc := 12) gX gB dS_baseOf_12 rfl (lv_at hl 2 rfl) ?_
      refine jv_ri (pc := 13) (wr := [(tA 0, .inr (1, [.ref (tA 1), .ref (tA 9), .ref (tA 10), .ref (tA 11), .ref (tA 12), .ref (tA 13), .ref (tA 14)])), (tA 1, .inl (cG, 7, .inr (.inr (.inr (.inr (rfs [tA 2, tA 3, tA 4, tA 5, tA 6, tA 7, tA 8])))))), (tA 2, .inl (cI, 75, .inl (av pr0))), (tA 3, .inl (cI, 75, .inl (av pr1))), (tA 4, .inl (cI, 75, .inl (av pr2))), (tA 5, .inl (cI, 75, .inl (av pr3))), (tA 6, .inl (cI, 75, .inl (av pr4))), (tA 7, .inl (cI, 75, .inl (av pr5))), (tA 8, .inl (cI, 75, .inl (av pr6))), (tA 9, .inl (cI, 75, .inl (av t1))), (tA 10, .inl (cI, 75, .inl (av t2))), (tA 11, .inl (cZ, 75, .inl (av ex))), (tA 12, .inl (cI, 300, .inl (av pt))), (tA 13, .inl (cI, 75, .inl (av pn))), (tA 14, .inl (cI, 75, .inl (av tc)))]) (wn := fun u : Int => (wTR cI cZ cG cR tA pr0 pr1 pr2 pr3 pr4 pr5 pr6 t1 t2 ex pt pn tc xa xi xn xs xf)) (va_runV (rest := [.ref (tA 0)]) ⟨gX, gB, hml, hown, hw0⟩ (c_R_item l dC dI cI cZ cG cR xa xi xn xs xf _ i (by omega) (by omega)) (jcV hw0 kR_item q521 rfl rfl ⟨Nat.le_trans (Nat.le_of_ble_eq_true rfl) hRf, Nat.le_trans (Nat.le_of_ble_eq_true rfl) hRl⟩) (jv_preV (ci := 2) (q0 := 15) hK hP hD [15, 16] rfl (by decide) rfl rfl) rfl rfl hl.1 rfl (lv_room (Nat.le_of_ble_eq_true rfl)) dS_baseOf_13 ⟨Nat.zero_le _, Nat.zero_le _⟩) hP hD hS hA [15, 16] [0, 1, 2, 3, 4, 5, 6, 7, 8, 9, 10, 11, 12, 13, 14] [0, 1, 2, 3, 4, 5, 6, 7, 8, 9, 10, 11, 12, 13, 14, 15, 16] rfl rfl (by decide) (by decide) (by decide) (fun _ => rfl) (fun r0 u H locs hw13 hP hD hS => ?_)
      obtain ⟨r_13, hu⟩ : ∃ z, z = u := ⟨_, rfl⟩; subst hu
      obtain ⟨rfl, hw13⟩ := hw13
      refine jv_ri (pc := 16) (wr := [(xa, .inr (2, [.ref xi, .int (iv xs)])), (xi, .inl (cI, xn, .inl (av xf)))]) (wn := fun u : Int => (wTR cI cZ cG cR tA pr0 pr1 pr2 pr3 pr4 pr5 pr6 t1 t2 ex pt pn tc xa xi xn xs xf)) (va_runV (rest := []) ⟨gX, gB, hml, hown, hw0⟩ (c_T_sideClass l dC dI cI cZ cG cR tA pr0 pr1 pr2 pr3 pr4 pr5 pr6 t1 t2 ex pt pn tc _ r_13 (by rw [hw13]; exact hxi)) (jcV hw0 kT_sideClass q522 rfl rfl ⟨Nat.le_trans (Nat.le_of_ble_eq_true rfl) hRf, Nat.le_trans (Nat.le_of_ble_eq_true rfl) hRl⟩) (jv_preV (ci := 1) (q0 := 0) hK hP hD [0, 1, 2, 3, 4, 5, 6, 7, 8, 9, 10, 11, 12, 13, 14] rfl (by decide) rfl rfl) rfl rfl hl.1 rfl (lv_room (Nat.le_of_ble_eq_true rfl)) dS_baseOf_16 ⟨Nat.zero_le _, Nat.zero_le _⟩) hP hD hS hA [0, 1, 2, 3, 4, 5, 6, 7, 8, 9, 10, 11, 12, 13, 14] [15, 16] [2, 3, 4, 5, 6, 7, 8, 9, 10, 11, 12, 13, 14, 15, 16, 0, 1] rfl rfl (by decide) (by decide) (by decide) (fun _ => rfl) (fun r0 u H locs hw16 hP hD hS => ?_)
      obtain ⟨r_16, hu⟩ : ∃ z, z = u := ⟨_, rfl⟩; subst hu
      obtain ⟨rfl, hw16⟩ := hw16
      have hr16 : r_16 = pr3 (xf i) := by rw [hw16, hw13]
      refine lv_istore_n (pc := 19) (lv' := [(3, .int (iv r_16)), (0, .ref (tA 0)), (1, .ref xa), (2, .int (iv i))]) gX gB dS_baseOf_19 rfl hl (by decide) rfl (fun ls hl => ?_)
      refine lv_iload_n (pc := 20) gX gB dS_baseOf_20 rfl (lv_at hl 0 rfl) ?_
      refine jv_ri (pc := 21) (wr := [(tA 0, .inr (1, [.ref (tA 1), .ref (tA 9), .ref (tA 10), .ref (tA 11), .ref (tA 12), .ref (tA 13), .ref (tA 14)])), (tA 1, .inl (cG, 7, .inr (.inr (.inr (.inr (rfs [tA 2, tA 3, tA 4, tA 5, tA 6, tA 7, tA 8])))))), (tA 2, .inl (cI, 75, .inl (av pr0))), (tA 3, .inl (cI, 75, .inl (av pr1))), (tA 4, .inl (cI, 75, .inl (av pr2))), (tA 5, .inl (cI, 75, .inl (av pr3))), (tA 6, .inl (cI, 75, .inl (av pr4))), (tA 7, .inl (cI, 75, .inl (av pr5))), (tA 8, .inl (cI, 75, .inl (av pr6))), (tA 9, .inl (cI, 75, .inl (av t1))), (tA 10, .inl (cI, 75, .inl (av t2))), (tA 11, .inl (cZ, 75, .inl (av ex))), (tA 12, .inl (cI, 300, .inl (av pt))), (tA 13, .inl (cI, 75, .inl (av pn))), (tA 14, .inl (cI, 75, .inl (av tc))), (xa, .inr (2, [.ref xi, .int (iv xs)])), (xi, .inl (cI, xn, .inl (av xf)))]) (wn := fun u : Int => (wTR cI cZ cG cR tA pr0 pr1 pr2 pr3 pr4 pr5 pr6 t1 t2 ex pt pn tc xa xi xn xs xf)) (va_runS (rest := []) ⟨gX, gB, hml, hown, hw0⟩ (c_S_isLetter l dC dI cI cZ cG cR  _ r_16 (by rw [hr16]; exact hci)) (jcS hw0 kS_isLetter q526 rfl rfl ⟨Nat.le_trans (Nat.le_of_ble_eq_true rfl) hRf, Nat.le_trans (Nat.le_of_ble_eq_true rfl) hRl⟩) (jv_preS hK hP hD [] rfl (by decide)) rfl rfl hl.1 rfl (lv_room (Nat.le_of_ble_eq_true rfl)) dS_baseOf_21 ⟨Nat.zero_le _, Nat.zero_le _⟩) hP hD hS hA [] [0, 1, 2, 3, 4, 5, 6, 7, 8, 9, 10, 11, 12, 13, 14, 15, 16] [0, 1, 2, 3, 4, 5, 6, 7, 8, 9, 10, 11, 12, 13, 14, 15, 16] rfl rfl (by decide) (by decide) (by decide) (fun _ => rfl) (fun r0 u H locs hw21 hP hD hS => ?_)
      obtain ⟨r_21, hu⟩ : ∃ z, z = u := ⟨_, rfl⟩; subst hu
      obtain ⟨rfl, hw21⟩ := hw21
      refine jv_if_eq (pc := 24) (tgt := 37) gX gB dS_baseOf_24 (by decide) (by omega) (fun h2 => ?_) (fun h2 => ?_)
      · skip
        refine jv_iinc (pc := 37) (k := 3) (x := i) (n := 1) (lv' := [(2, .int (iv (i + 1))), (3, .int (iv r_16)), (0, .ref (tA 0)), (1, .ref xa)]) gX gB dS_baseOf_37 hl rfl (by decide) rfl (fun ls hl => ?_)
        refine lv_goto (pc := 40) (tgt := 2) gX gB dS_baseOf_40 (by decide) ?_
        exact ih2 (i + 1) _ _ _ (by omega) (by rw [← hq, hs9, if_neg (by omega), show xs - (i + 1) = xs - i - 1 by omega]) (by omega) (lv_sub hl [2, 3, 0] rfl) hP hD hS
      refine lv_iload_n (pc := 27) gX gB dS_baseOf_27 rfl (lv_at hl 0 rfl) ?_
      refine jv_if_ne (pc := 28) (tgt := 35) gX gB dS_baseOf_28 (by decide) (by omega) (fun h3 => ?_) (fun h3 => ?_)
      · skip
        refine lv_iconst (pc := 35) (v := iv 1) gX gB dS_baseOf_35 rfl ?_
        exact hret _ (1) dS_baseOf_36 ⟨rfl, by first | (refine ⟨Or.inl rfl, ?_⟩; rw [← hq, hs9, if_pos (by omega), if_pos (by omega)]) | (refine ⟨Or.inr rfl, ?_⟩; rw [← hq, hs9, if_pos (by omega), if_neg (by omega)])⟩ hP hD hS
      refine lv_iconst (pc := 31) (v := iv 0) gX gB dS_baseOf_31 rfl ?_
      refine lv_goto (pc := 32) (tgt := 36) gX gB dS_baseOf_32 (by decide) ?_
      exact hret _ (0) dS_baseOf_36 ⟨rfl, by first | (refine ⟨Or.inl rfl, ?_⟩; rw [← hq, hs9, if_pos (by omega), if_pos (by omega)]) | (refine ⟨Or.inr rfl, ?_⟩; rw [← hq, hs9, if_pos (by omega), if_neg (by omega)])⟩ hP hD hS
  exact cut2 (((xs - 0 : Int).toNat) + 1) 0 _ _ _ (by omega) (by rw [show xs - 0 = xs by omega]) (Nat.lt_succ_self _) (lv_sub hl [1, 2, 0] rfl) hP hD hS
set_option maxRecDepth 100000 in
set_option maxHeartbeats 1000000 in
theorem c_S_takeKinds (l : Launch) (dC : Nat → ClassId) (dI : Nat → Nat → Nat) (cI : ClassId) (cZ : ClassId) (cG : ClassId) (cR : ClassId) (sA : Nat → Nat) (kd : Int → Int) (lw : Int → Int) (od : Int → Int) (tA : Nat → Nat) (pr0 : Int → Int) (pr1 : Int → Int) (pr2 : Int → Int) (pr3 : Int → Int) (pr4 : Int → Int) (pr5 : Int → Int) (pr6 : Int → Int) (t1 : Int → Int) (t2 : Int → Int) (ex : Int → Int) (pt : Int → Int) (pn : Int → Int) (tc : Int → Int) (xa : Nat) (xi : Nat) (xn : Nat) (xs : Int) (xf : Int → Int) (sz : Nat) (ow : Int) (hcap : xn < 1000) (hsx : 0 ≤ xs ∧ xs ≤ (xn : Int) ∧ xs ≤ 40) (hxf : ∀ j, 0 ≤ j → j < xs → 0 ≤ xf j ∧ xf j < 75) (hp3 : ∀ c, 0 ≤ c → c < 75 → 0 ≤ pr3 c ∧ pr3 c ≤ 11) : Met l yS_takeKinds wsS_takeKinds ({ frames := 1, cells := 0, slots := 0, locals := 21 }) (va_Pc [.ref (sA 0), .ref (tA 0), .ref xa, .int (iv ow)] (jPre (dC, dI) (jT cI cZ cG cR) (wSTR cI cZ cG cR sA kd lw od tA pr0 pr1 pr2 pr3 pr4 pr5 pr6 t1 t2 ex pt pn tc xa xi xn xs xf) sz)) (va_Qv (fun u : (Int → Int) => EqR xs u (k0f pr3 xf xs ow)) (fun u => jEnd (dC, dI) (jT cI cZ cG cR) (va_A (wSTR cI cZ cG cR sA kd lw od tA pr0 pr1 pr2 pr3 pr4 pr5 pr6 t1 t2 ex pt pn tc xa xi xn xs xf) sz) (wSTR cI cZ cG cR sA u lw od tA pr0 pr1 pr2 pr3 pr4 pr5 pr6 t1 t2 ex pt pn tc xa xi xn xs xf)) (va_A (wSTR cI cZ cG cR sA kd lw od tA pr0 pr1 pr2 pr3 pr4 pr5 pr6 t1 t2 ex pt pn tc xa xi xn xs xf) sz)) 0 0 (va_A (wSTR cI cZ cG cR sA kd lw od tA pr0 pr1 pr2 pr3 pr4 pr5 pr6 t1 t2 ex pt pn tc xa xi xn xs xf) sz) := by
  refine jv_mv (cc := cS_takeKinds) (maxL := 5) (by decide) rfl (Nat.le_of_ble_eq_true rfl) ?_
  intro p0 e0 s0 m0 a0 b0 t0 c0 R0 Q0 A0 ls gX gB hts hown hml hRf hRl hA hK hret hl hP hD hS
  have hown : s0.vm.findClass "TextPipeline$Sides" = some m0.cls := hown
  have hw0 : ∀ w ∈ WS0, w.before a0 s0 = true := fun w h => hts w (List.mem_cons_of_mem _ h)
  have hl : lv_has ls 5 [(0, .ref (sA 0)), (1, .ref (tA 0)), (2, .ref xa), (3, .int (iv ow))] := hl
  have hRf : 1 ≤ R0.frames := hRf
  have hRl : 21 ≤ R0.locals := hRl
  refine lv_aload_n (pc := 0) gX gB dS_takeKinds_0 rfl (lv_at hl 0 rfl) ?_
  refine va_get (pc := 1) (D := (dC, dI)) (ci := 4) (v := .ref (sA 1)) (C := RS) (T := TS) (N := 3) gX gB hw0 inS hown hK hP 0 rfl rfl 0 (by decide) (hw0 _ q118) (fun _ h9 => h9) rfl dS_takeKinds_1 ?_
  refine lv_iconst (pc := 4) (v := iv 0) gX gB dS_takeKinds_4 rfl ?_
  refine lv_iload_n (pc := 5) gX gB dS_takeKinds_5 rfl (lv_at hl 3 rfl) ?_
  refine jv_iast (pc := 6) (ws' := (wSTR cI cZ cG cR sA (uI kd 0 ow) lw od tA pr0 pr1 pr2 pr3 pr4 pr5 pr6 t1 t2 ex pt pn tc xa xi xn xs xf)) gX gB hK hP hD hS 1 0 rfl rfl (by decide) (by omega) dS_takeKinds_6 rfl (fun H locs hP hD hS => ?_)
  refine lv_iconst (pc := 7) (v := iv 0) gX gB dS_takeKinds_7 rfl ?_
  refine lv_istore (pc := 8) (lv' := [(4, .int (iv 0)), (0, .ref (sA 0)), (1, .ref (tA 0)), (2, .ref xa), (3, .int (iv ow))]) gX gB dS_takeKinds_8 hl (by decide) rfl (fun ls hl => ?_)
  have cut10 : ∀ (n0 : Nat) (i : Int) (g : Int → Int) (ls : Array Slot) (H : Heap) (locs : List Loc), (0 ≤ i ∧ i ≤ xs) → (g 0 = ow) → (∀ j, 0 ≤ j → j < i → g (j + 1) = pr3 (xf j)) → ((xs - i : Int).toNat < n0) → lv_has ls 5 [(0, .ref (sA 0)), (1, .ref (tA 0)), (2, .ref xa), (3, .int (iv ow)), (4, .int (iv i))] → va_P (dC, dI) vwCl (wSTR cI cZ cG cR sA g lw od tA pr0 pr1 pr2 pr3 pr4 pr5 pr6 t1 t2 ex pt pn tc xa xi xn xs xf) H → va_D A0 (wSTR cI cZ cG cR sA g lw od tA pr0 pr1 pr2 pr3 pr4 pr5 pr6 t1 t2 ex pt pn tc xa xi xn xs xf) → va_S A0 s0.heap H locs → W p0 l e0 R0 s0 m0 a0 b0 t0 c0 H locs 0 0 Q0 (F0 m0 10 ls []) := by
    intro n0
    induction n0 with
    | zero => intro i g ls H locs hi hg0 hgs hm hl hP hD hS; exact absurd hm (Nat.not_lt_zero _)
    | succ n0 ih10 =>
      intro i g ls H locs hi hg0 hgs hm10 hl hP hD hS
      refine lv_iload (pc := 10) gX gB dS_takeKinds_10 (lv_at hl 4 rfl) ?_
      refine lv_aload_n (pc := 12) gX gB dS_takeKinds_12 rfl (lv_at hl 2 rfl) ?_
      refine jv_ri (pc := 13) (wr := [(sA 0, .inr (4, [.ref (sA 1), .ref (sA 2), .ref (sA 3)])), (sA 1, .inl (cI, 42, .inl (av g))), (sA 2, .inl (cI, 40, .inl (av lw))), (sA 3, .inl (cI, 40, .inl (av od))), (tA 0, .inr (1, [.ref (tA 1), .ref (tA 9), .ref (tA 10), .ref (tA 11), .ref (tA 12), .ref (tA 13), .ref (tA 14)])), (tA 1, .inl (cG, 7, .inr (.inr (.inr (.inr (rfs [tA 2, tA 3, tA 4, tA 5, tA 6, tA 7, tA 8])))))), (tA 2, .inl (cI, 75, .inl (av pr0))), (tA 3, .inl (cI, 75, .inl (av pr1))), (tA 4, .inl (cI, 75, .inl (av pr2))), (tA 5, .inl (cI, 75, .inl (av pr3))), (tA 6, .inl (cI, 75, .inl (av pr4))), (tA 7, .inl (cI, 75, .inl (av pr5))), (tA 8, .inl (cI, 75, .inl (av pr6))), (tA 9, .inl (cI, 75, .inl (av t1))), (tA 10, .inl (cI, 75, .inl (av t2))), (tA 11, .inl (cZ, 75, .inl (av ex))), (tA 12, .inl (cI, 300, .inl (av pt))), (tA 13, .inl (cI, 75, .inl (av pn))), (tA 14, .inl (cI, 75, .inl (av tc)))]) (wn := fun u : Int => (wSTR cI cZ cG cR sA g lw od tA pr0 pr1 pr2 pr3 pr4 pr5 pr6 t1 t2 ex pt pn tc xa xi xn xs xf)) (va_runV (rest := [.int (iv i)]) ⟨gX, gB, hml, hown, hw0⟩ (c_R_size l dC dI cI cZ cG cR xa xi xn xs xf _  ) (jcV hw0 kR_size q517 rfl rfl ⟨Nat.le_trans (Nat.le_of_ble_eq_true rfl) hRf, Nat.le_trans (Nat.le_of_ble_eq_true rfl) hRl⟩) (jv_preV (ci := 2) (q0 := 19) hK hP hD [19, 20] rfl (by decide) rfl rfl) rfl rfl hl.1 rfl (lv_room (Nat.le_of_ble_eq_true rfl)) dS_takeKinds_13 ⟨Nat.zero_le _, Nat.zero_le _⟩) hP hD hS hA [19, 20] [0, 1, 2, 3, 4, 5, 6, 7, 8, 9, 10, 11, 12, 13, 14, 15, 16, 17, 18] [0, 1, 2, 3, 4, 5, 6, 7, 8, 9, 10, 11, 12, 13, 14, 15, 16, 17, 18, 19, 20] rfl rfl (by decide) (by decide) (by decide) (fun _ => rfl) (fun r0 u H locs hw13 hP hD hS => ?_)
      obtain ⟨r_13, hu⟩ : ∃ z, z = u := ⟨_, rfl⟩; subst hu
      obtain ⟨rfl, hw13⟩ := hw13
      refine jv_icmp_ge (pc := 16) (tgt := 44) gX gB dS_takeKinds_16 (by decide) (by omega) (by omega) (fun h1 => ?_) (fun h1 => ?_)
      · skip
        refine lv_aload_n (pc := 44) gX gB dS_takeKinds_44 rfl (lv_at hl 0 rfl) ?_
        refine va_get (pc := 45) (D := (dC, dI)) (ci := 4) (v := .ref (sA 1)) (C := RS) (T := TS) (N := 3) gX gB hw0 inS hown hK hP 0 rfl rfl 0 (by decide) (hw0 _ q118) (fun _ h9 => h9) rfl dS_takeKinds_45 ?_
        refine lv_aload_n (pc := 48) gX gB dS_takeKinds_48 rfl (lv_at hl 2 rfl) ?_
        refine jv_ri (pc := 49) (wr := [(sA 0, .inr (4, [.ref (sA 1), .ref (sA 2), .ref (sA 3)])), (sA 1, .inl (cI, 42, .inl (av g))), (sA 2, .inl (cI, 40, .inl (av lw))), (sA 3, .inl (cI, 40, .inl (av od))), (tA 0, .inr (1, [.ref (tA 1), .ref (tA 9), .ref (tA 10), .ref (tA 11), .ref (tA 12), .ref (tA 13), .ref (tA 14)])), (tA 1, .inl (cG, 7, .inr (.inr (.inr (.inr (rfs [tA 2, tA 3, tA 4, tA 5, tA 6, tA 7, tA 8])))))), (tA 2, .inl (cI, 75, .inl (av pr0))), (tA 3, .inl (cI, 75, .inl (av pr1))), (tA 4, .inl (cI, 75, .inl (av pr2))), (tA 5, .inl (cI, 75, .inl (av pr3))), (tA 6, .inl (cI, 75, .inl (av pr4))), (tA 7, .inl (cI, 75, .inl (av pr5))), (tA 8, .inl (cI, 75, .inl (av pr6))), (tA 9, .inl (cI, 75, .inl (av t1))), (tA 10, .inl (cI, 75, .inl (av t2))), (tA 11, .inl (cZ, 75, .inl (av ex))), (tA 12, .inl (cI, 300, .inl (av pt))), (tA 13, .inl (cI, 75, .inl (av pn))), (tA 14, .inl (cI, 75, .inl (av tc)))]) (wn := fun u : Int => (wSTR cI cZ cG cR sA g lw od tA pr0 pr1 pr2 pr3 pr4 pr5 pr6 t1 t2 ex pt pn tc xa xi xn xs xf)) (va_runV (rest := [.ref (sA 1)]) ⟨gX, gB, hml, hown, hw0⟩ (c_R_size l dC dI cI cZ cG cR xa xi xn xs xf _  ) (jcV hw0 kR_size q517 rfl rfl ⟨Nat.le_trans (Nat.le_of_ble_eq_true rfl) hRf, Nat.le_trans (Nat.le_of_ble_eq_true rfl) hRl⟩) (jv_preV (ci := 2) (q0 := 19) hK hP hD [19, 20] rfl (by decide) rfl rfl) rfl rfl hl.1 rfl (lv_room (Nat.le_of_ble_eq_true rfl)) dS_takeKinds_49 ⟨Nat.zero_le _, Nat.zero_le _⟩) hP hD hS hA [19, 20] [0, 1, 2, 3, 4, 5, 6, 7, 8, 9, 10, 11, 12, 13, 14, 15, 16, 17, 18] [0, 1, 2, 3, 4, 5, 6, 7, 8, 9, 10, 11, 12, 13, 14, 15, 16, 17, 18, 19, 20] rfl rfl (by decide) (by decide) (by decide) (fun _ => rfl) (fun r0 u H locs hw49 hP hD hS => ?_)
        obtain ⟨r_49, hu⟩ : ∃ z, z = u := ⟨_, rfl⟩; subst hu
        obtain ⟨rfl, hw49⟩ := hw49
        refine lv_iconst (pc := 52) (v := iv 1) gX gB dS_takeKinds_52 rfl ?_
        refine jv_iadd (pc := 53) (x := r_49) (y := 1) gX gB dS_takeKinds_53 ?_
        refine lv_iload_n (pc := 54) gX gB dS_takeKinds_54 rfl (lv_at hl 3 rfl) ?_
        refine jv_iast (pc := 55) (ws' := (wSTR cI cZ cG cR sA (uI g (r_49 + 1) ow) lw od tA pr0 pr1 pr2 pr3 pr4 pr5 pr6 t1 t2 ex pt pn tc xa xi xn xs xf)) gX gB hK hP hD hS 1 0 rfl rfl (by decide) (by omega) dS_takeKinds_55 rfl (fun H locs hP hD hS => ?_)
        exact hret ((uI g (r_49 + 1) ow)) dS_takeKinds_56 (by intro j a b; unfold k0f; rw [hw49]; by_cases c : j = xs + 1; (rw [uI_e c, if_pos (Or.inr c)]); (rw [uI_n c]; by_cases d : j = 0; (rw [if_pos (Or.inl d), d]; exact hg0); (rw [if_neg (fun z => by omega)]; have q := hgs (j - 1) (by omega) (by omega); rw [show j - 1 + 1 = j by omega] at q; exact q))) hP hD hS
      have hxi := hxf i (by omega) (by omega)
      refine lv_aload_n (pc := 19) gX gB dS_takeKinds_19 rfl (lv_at hl 0 rfl) ?_
      refine va_get (pc := 20) (D := (dC, dI)) (ci := 4) (v := .ref (sA 1)) (C := RS) (T := TS) (N := 3) gX gB hw0 inS hown hK hP 0 rfl rfl 0 (by decide) (hw0 _ q118) (fun _ h9 => h9) rfl dS_takeKinds_20 ?_
      refine lv_iload (pc := 23) gX gB dS_takeKinds_23 (lv_at hl 4 rfl) ?_
      refine lv_iconst (pc := 25) (v := iv 1) gX gB dS_takeKinds_25 rfl ?_
      refine jv_iadd (pc := 26) (x := i) (y := 1) gX gB dS_takeKinds_26 ?_
      refine lv_aload_n (pc := 27) gX gB dS_takeKinds_27 rfl (lv_at hl 1 rfl) ?_
      refine lv_aload_n (pc := 28) gX gB dS_takeKinds_28 rfl (lv_at hl 2 rfl) ?_
      refine lv_iload (pc := 29) gX gB dS_takeKinds_29 (lv_at hl 4 rfl) ?_
      refine jv_ri (pc := 31) (wr := [(sA 0, .inr (4, [.ref (sA 1), .ref (sA 2), .ref (sA 3)])), (sA 1, .inl (cI, 42, .inl (av g))), (sA 2, .inl (cI, 40, .inl (av lw))), (sA 3, .inl (cI, 40, .inl (av od))), (tA 0, .inr (1, [.ref (tA 1), .ref (tA 9), .ref (tA 10), .ref (tA 11), .ref (tA 12), .ref (tA 13), .ref (tA 14)])), (tA 1, .inl (cG, 7, .inr (.inr (.inr (.inr (rfs [tA 2, tA 3, tA 4, tA 5, tA 6, tA 7, tA 8])))))), (tA 2, .inl (cI, 75, .inl (av pr0))), (tA 3, .inl (cI, 75, .inl (av pr1))), (tA 4, .inl (cI, 75, .inl (av pr2))), (tA 5, .inl (cI, 75, .inl (av pr3))), (tA 6, .inl (cI, 75, .inl (av pr4))), (tA 7, .inl (cI, 75, .inl (av pr5))), (tA 8, .inl (cI, 75, .inl (av pr6))), (tA 9, .inl (cI, 75, .inl (av t1))), (tA 10, .inl (cI, 75, .inl (av t2))), (tA 11, .inl (cZ, 75, .inl (av ex))), (tA 12, .inl (cI, 300, .inl (av pt))), (tA 13, .inl (cI, 75, .inl (av pn))), (tA 14, .inl (cI, 75, .inl (av tc)))]) (wn := fun u : Int => (wSTR cI cZ cG cR sA g lw od tA pr0 pr1 pr2 pr3 pr4 pr5 pr6 t1 t2 ex pt pn tc xa xi xn xs xf)) (va_runV (rest := [.ref (tA 0), .int (iv (i + 1)), .ref (sA 1)]) ⟨gX, gB, hml, hown, hw0⟩ (c_R_item l dC dI cI cZ cG cR xa xi xn xs xf _ i (by omega) (by omega)) (jcV hw0 kR_item q521 rfl rfl ⟨Nat.le_trans (Nat.le_of_ble_eq_true rfl) hRf, Nat.le_trans (Nat.le_of_ble_eq_true rfl) hRl⟩) (jv_preV (ci := 2) (q0 := 19) hK hP hD [19, 20] rfl (by decide) rfl rfl) rfl rfl hl.1 rfl (lv_room (Nat.le_of_ble_eq_true rfl)) dS_takeKinds_31 ⟨Nat.zero_le _, Nat.zero_le _⟩) hP hD hS hA [19, 20] [0, 1, 2, 3, 4, 5, 6, 7, 8, 9, 10, 11, 12, 13, 14, 15, 16, 17, 18] [0, 1, 2, 3, 4, 5, 6, 7, 8, 9, 10, 11, 12, 13, 14, 15, 16, 17, 18, 19, 20] rfl rfl (by decide) (by decide) (by decide) (fun _ => rfl) (fun r0 u H locs hw31 hP hD hS => ?_)
      obtain ⟨r_31, hu⟩ : ∃ z, z = u := ⟨_, rfl⟩; subst hu
      obtain ⟨rfl, hw31⟩ := hw31
      refine jv_ri (pc := 34) (wr := [(sA 0, .inr (4, [.ref (sA 1), .ref (sA 2), .ref (sA 3)])), (sA 1, .inl (cI, 42, .inl (av g))), (sA 2, .inl (cI, 40, .inl (av lw))), (sA 3, .inl (cI, 40, .inl (av od))), (xa, .inr (2, [.ref xi, .int (iv xs)])), (xi, .inl (cI, xn, .inl (av xf)))]) (wn := fun u : Int => (wSTR cI cZ cG cR sA g lw od tA pr0 pr1 pr2 pr3 pr4 pr5 pr6 t1 t2 ex pt pn tc xa xi xn xs xf)) (va_runV (rest := [.int (iv (i + 1)), .ref (sA 1)]) ⟨gX, gB, hml, hown, hw0⟩ (c_T_sideClass l dC dI cI cZ cG cR tA pr0 pr1 pr2 pr3 pr4 pr5 pr6 t1 t2 ex pt pn tc _ r_31 (by rw [hw31]; exact hxi)) (jcV hw0 kT_sideClass q522 rfl rfl ⟨Nat.le_trans (Nat.le_of_ble_eq_true rfl) hRf, Nat.le_trans (Nat.le_of_ble_eq_true rfl) hRl⟩) (jv_preV (ci := 1) (q0 := 4) hK hP hD [4, 5, 6, 7, 8, 9, 10, 11, 12, 13, 14, 15, 16, 17, 18] rfl (by decide) rfl rfl) rfl rfl hl.1 rfl (lv_room (Nat.le_of_ble_eq_true rfl)) dS_takeKinds_34 ⟨Nat.zero_le _, Nat.zero_le _⟩) hP hD hS hA [4, 5, 6, 7, 8, 9, 10, 11, 12, 13, 14, 15, 16, 17, 18] [0, 1, 2, 3, 19, 20] [0, 1, 2, 3, 6, 7, 8, 9, 10, 11, 12, 13, 14, 15, 16, 17, 18, 19, 20, 4, 5] rfl rfl (by decide) (by decide) (by decide) (fun _ => rfl) (fun r0 u H locs hw34 hP hD hS => ?_)
      obtain ⟨r_34, hu⟩ : ∃ z, z = u := ⟨_, rfl⟩; subst hu
      obtain ⟨rfl, hw34⟩ := hw34
      have hr34 : r_34 = pr3 (xf i) := by rw [hw34, hw31]
      refine jv_iast (pc := 37) (ws' := (wSTR cI cZ cG cR sA (uI g (i + 1) r_34) lw od tA pr0 pr1 pr2 pr3 pr4 pr5 pr6 t1 t2 ex pt pn tc xa xi xn xs xf)) gX gB hK hP hD hS 1 0 rfl rfl (by decide) (by omega) dS_takeKinds_37 rfl (fun H locs hP hD hS => ?_)
      refine jv_iinc (pc := 38) (k := 4) (x := i) (n := 1) (lv' := [(4, .int (iv (i + 1))), (0, .ref (sA 0)), (1, .ref (tA 0)), (2, .ref xa), (3, .int (iv ow))]) gX gB dS_takeKinds_38 hl rfl (by decide) rfl (fun ls hl => ?_)
      refine lv_goto (pc := 41) (tgt := 10) gX gB dS_takeKinds_41 (by decide) ?_
      exact ih10 (i + 1) (uI g (i + 1) r_34) _ _ _ (by omega) (by rw [uI_n (by omega)]; exact hg0) (by intro j a b; by_cases e : j = i; (rw [e, uI_s, hr34]); (rw [uI_n (by omega)]; exact hgs j a (by omega))) (by omega) (lv_sub hl [1, 2, 3, 4, 0] rfl) hP hD hS
  exact cut10 (((xs - 0 : Int).toNat) + 1) 0 (uI kd 0 ow) _ _ _ (by omega) (by exact uI_s) (by intro j a b; omega) (Nat.lt_succ_self _) (lv_sub hl [1, 2, 3, 4, 0] rfl) hP hD hS
set_option maxRecDepth 100000 in
set_option maxHeartbeats 1000000 in
theorem c_S_takeFromFront (l : Launch) (dC : Nat → ClassId) (dI : Nat → Nat → Nat) (cI : ClassId) (cZ : ClassId) (cG : ClassId) (cR : ClassId) (sA : Nat → Nat) (kd : Int → Int) (lw : Int → Int) (od : Int → Int) (sz : Nat) (n : Int) (hn9 : 0 ≤ n ∧ n ≤ 40) (hB : BS n kd) : Met l yS_takeFromFront wsS_takeFromFront ({ frames := 0, cells := 0, slots := 0, locals := 0 }) (va_Pc [.ref (sA 0), .int (iv n)] (jPre (dC, dI) (jT cI cZ cG cR) (wS cI cZ cG cR sA kd lw od) sz)) (va_Qv (fun u : (Int → Int) => EqR n u (w1 kd)) (fun u => jEnd (dC, dI) (jT cI cZ cG cR) (va_A (wS cI cZ cG cR sA kd lw od) sz) (wS cI cZ cG cR sA u lw od)) (va_A (wS cI cZ cG cR sA kd lw od) sz)) 0 0 (va_A (wS cI cZ cG cR sA kd lw od) sz) := by
  refine jv_mv (cc := cS_takeFromFront) (maxL := 3) (by decide) rfl (Nat.le_of_ble_eq_true rfl) ?_
  intro p0 e0 s0 m0 a0 b0 t0 c0 R0 Q0 A0 ls gX gB hts hown hml hRf hRl hA hK hret hl hP hD hS
  have hown : s0.vm.findClass "TextPipeline$Sides" = some m0.cls := hown
  have hw0 : ∀ w ∈ WS0, w.before a0 s0 = true := fun w h => hts w (List.mem_cons_of_mem _ h)
  have hl : lv_has ls 3 [(0, .ref (sA 0)), (1, .int (iv n))] := hl
  have hRf : 0 ≤ R0.frames := hRf
  have hRl : 0 ≤ R0.locals := hRl
  have hB1 := BS_1 hn9.1 hB
  refine lv_iconst (pc := 0) (v := iv 1) gX gB dS_takeFromFront_0 rfl ?_
  refine lv_istore_n (pc := 1) (lv' := [(2, .int (iv 1)), (0, .ref (sA 0)), (1, .int (iv n))]) gX gB dS_takeFromFront_1 rfl hl (by decide) rfl (fun ls hl => ?_)
  have cut2 : ∀ (n0 : Nat) (i : Int) (g : Int → Int) (ls : Array Slot) (H : Heap) (locs : List Loc), (1 ≤ i ∧ i ≤ n + 1) → (STG n (w1 kd) kd i g) → (RGK n g) → ((n + 1 - i : Int).toNat < n0) → lv_has ls 3 [(0, .ref (sA 0)), (1, .int (iv n)), (2, .int (iv i))] → va_P (dC, dI) vwCl (wS cI cZ cG cR sA g lw od) H → va_D A0 (wS cI cZ cG cR sA g lw od) → va_S A0 s0.heap H locs → W p0 l e0 R0 s0 m0 a0 b0 t0 c0 H locs 0 0 Q0 (F0 m0 2 ls []) := by
    intro n0
    induction n0 with
    | zero => intro i g ls H locs hi hg hr9 hm hl hP hD hS; exact absurd hm (Nat.not_lt_zero _)
    | succ n0 ih2 =>
      intro i g ls H locs hi hg hr9 hm2 hl hP hD hS
      refine lv_iload_n (pc := 2) gX gB dS_takeFromFront_2 rfl (lv_at hl 2 rfl) ?_
      refine lv_iload_n (pc := 3) gX gB dS_takeFromFront_3 rfl (lv_at hl 1 rfl) ?_
      refine jv_icmp_gt (pc := 4) (tgt := 38) gX gB dS_takeFromFront_4 (by decide) (by omega) (by omega) (fun h1 => ?_) (fun h1 => ?_)
      · skip
        exact hret (g) dS_takeFromFront_38 (by exact stg_end hg (by omega) hB1.2.2) hP hD hS
      have a1 := hg.2 i (by omega) (by omega)
      have a2 := hg.1 (i - 1) (by omega) (by omega)
      have a3 := hr9 i (by omega) (by omega)
      have a4 := hr9 (i - 1) (by omega) (by omega)
      have a5 := w1_s (K := kd) (i := i) (by omega)
      refine lv_aload_n (pc := 7) gX gB dS_takeFromFront_7 rfl (lv_at hl 0 rfl) ?_
      refine va_get (pc := 8) (D := (dC, dI)) (ci := 4) (v := .ref (sA 1)) (C := RS) (T := TS) (N := 3) gX gB hw0 inS hown hK hP 0 rfl rfl 0 (by decide) (hw0 _ q118) (fun _ h9 => h9) rfl dS_takeFromFront_8 ?_
      refine lv_iload_n (pc := 11) gX gB dS_takeFromFront_11 rfl (lv_at hl 2 rfl) ?_
      refine jv_iald (pc := 12) gX gB hK hP 1 0 rfl rfl (by decide) (by omega) dS_takeFromFront_12 ?_
      refine lv_bipush (pc := 13) (v := iv 8) gX gB dS_takeFromFront_13 (by decide) ?_
      refine jv_icmp_ne (pc := 15) (tgt := 32) gX gB dS_takeFromFront_15 (by decide) (by omega) (by decide) (fun h2 => ?_) (fun h2 => ?_)
      · skip
        refine jv_iinc (pc := 32) (k := 2) (x := i) (n := 1) (lv' := [(2, .int (iv (i + 1))), (0, .ref (sA 0)), (1, .int (iv n))]) gX gB dS_takeFromFront_32 hl rfl (by decide) rfl (fun ls hl => ?_)
        refine lv_goto (pc := 35) (tgt := 2) gX gB dS_takeFromFront_35 (by decide) ?_
        exact ih2 (i + 1) g _ _ _ (by omega) (by first | exact stg_keep hg (by omega) (by rw [a5, if_neg (by omega)]) | exact stg_up hg (by rw [a5, if_pos (by omega)]; exact a2)) (by first | exact hr9 | exact RGK_up hr9 a4) (by omega) (lv_sub hl [1, 2, 0] rfl) hP hD hS
      refine lv_aload_n (pc := 18) gX gB dS_takeFromFront_18 rfl (lv_at hl 0 rfl) ?_
      refine va_get (pc := 19) (D := (dC, dI)) (ci := 4) (v := .ref (sA 1)) (C := RS) (T := TS) (N := 3) gX gB hw0 inS hown hK hP 0 rfl rfl 0 (by decide) (hw0 _ q118) (fun _ h9 => h9) rfl dS_takeFromFront_19 ?_
      refine lv_iload_n (pc := 22) gX gB dS_takeFromFront_22 rfl (lv_at hl 2 rfl) ?_
      refine lv_aload_n (pc := 23) gX gB dS_takeFromFront_23 rfl (lv_at hl 0 rfl) ?_
      refine va_get (pc := 24) (D := (dC, dI)) (ci := 4) (v := .ref (sA 1)) (C := RS) (T := TS) (N := 3) gX gB hw0 inS hown hK hP 0 rfl rfl 0 (by decide) (hw0 _ q118) (fun _ h9 => h9) rfl dS_takeFromFront_24 ?_
      refine lv_iload_n (pc := 27) gX gB dS_takeFromFront_27 rfl (lv_at hl 2 rfl) ?_
      refine lv_iconst (pc := 28) (v := iv 1) gX gB dS_takeFromFront_28 rfl ?_
      refine jv_isub (pc := 29) (x := i) (y := 1) gX gB dS_takeFromFront_29 ?_
      refine jv_iald (pc := 30) gX gB hK hP 1 0 rfl rfl (by decide) (by omega) dS_takeFromFront_30 ?_
      refine jv_iast (pc := 31) (ws' := (wS cI cZ cG cR sA (uI g i (g (i - 1))) lw od)) gX gB hK hP hD hS 1 0 rfl rfl (by decide) (by omega) dS_takeFromFront_31 rfl (fun H locs hP hD hS => ?_)
      refine jv_iinc (pc := 32) (k := 2) (x := i) (n := 1) (lv' := [(2, .int (iv (i + 1))), (0, .ref (sA 0)), (1, .int (iv n))]) gX gB dS_takeFromFront_32 hl rfl (by decide) rfl (fun ls hl => ?_)
      refine lv_goto (pc := 35) (tgt := 2) gX gB dS_takeFromFront_35 (by decide) ?_
      exact ih2 (i + 1) (uI g i (g (i - 1))) _ _ _ (by omega) (by first | exact stg_keep hg (by omega) (by rw [a5, if_neg (by omega)]) | exact stg_up hg (by rw [a5, if_pos (by omega)]; exact a2)) (by first | exact hr9 | exact RGK_up hr9 a4) (by omega) (lv_sub hl [1, 2, 0] rfl) hP hD hS
  exact cut2 (((n + 1 - 1 : Int).toNat) + 1) 1 kd _ _ _ (by omega) (by exact stg_0 hB1.2.1) (by exact hB.2.2) (Nat.lt_succ_self _) (lv_sub hl [1, 2, 0] rfl) hP hD hS
set_option maxRecDepth 100000 in
set_option maxHeartbeats 1000000 in
theorem c_S_changeArabs (l : Launch) (dC : Nat → ClassId) (dI : Nat → Nat → Nat) (cI : ClassId) (cZ : ClassId) (cG : ClassId) (cR : ClassId) (sA : Nat → Nat) (kd : Int → Int) (lw : Int → Int) (od : Int → Int) (sz : Nat) (n : Int) (hn9 : 0 ≤ n ∧ n ≤ 40) (hB : BS n kd) : Met l yS_changeArabs wsS_changeArabs ({ frames := 1, cells := 0, slots := 0, locals := 20 }) (va_Pc [.ref (sA 0), .int (iv n)] (jPre (dC, dI) (jT cI cZ cG cR) (wS cI cZ cG cR sA kd lw od) sz)) (va_Qv (fun u : (Int → Int) => EqR n u (w3 (w2 kd))) (fun u => jEnd (dC, dI) (jT cI cZ cG cR) (va_A (wS cI cZ cG cR sA kd lw od) sz) (wS cI cZ cG cR sA u lw od)) (va_A (wS cI cZ cG cR sA kd lw od) sz)) 0 0 (va_A (wS cI cZ cG cR sA kd lw od) sz) := by
  refine jv_mv (cc := cS_changeArabs) (maxL := 4) (by decide) rfl (Nat.le_of_ble_eq_true rfl) ?_
  intro p0 e0 s0 m0 a0 b0 t0 c0 R0 Q0 A0 ls gX gB hts hown hml hRf hRl hA hK hret hl hP hD hS
  have hown : s0.vm.findClass "TextPipeline$Sides" = some m0.cls := hown
  have hw0 : ∀ w ∈ WS0, w.before a0 s0 = true := fun w h => hts w (List.mem_cons_of_mem _ h)
  have hl : lv_has ls 4 [(0, .ref (sA 0)), (1, .int (iv n))] := hl
  have hRf : 1 ≤ R0.frames := hRf
  have hRl : 20 ≤ R0.locals := hRl
  have hB2 := BS_2 hn9.1 hB
  have hB3 := BS_3 hn9.1 hB2.1
  have hk0 := hB.2.2 0 (by omega) (by omega)
  refine lv_aload_n (pc := 0) gX gB dS_changeArabs_0 rfl (lv_at hl 0 rfl) ?_
  refine va_get (pc := 1) (D := (dC, dI)) (ci := 4) (v := .ref (sA 1)) (C := RS) (T := TS) (N := 3) gX gB hw0 inS hown hK hP 0 rfl rfl 0 (by decide) (hw0 _ q118) (fun _ h9 => h9) rfl dS_changeArabs_1 ?_
  refine lv_iconst (pc := 4) (v := iv 0) gX gB dS_changeArabs_4 rfl ?_
  refine jv_iald (pc := 5) gX gB hK hP 1 0 rfl rfl (by decide) (by omega) dS_changeArabs_5 ?_
  refine lv_istore_n (pc := 6) (lv' := [(2, .int (iv (kd 0))), (0, .ref (sA 0)), (1, .int (iv n))]) gX gB dS_changeArabs_6 rfl hl (by decide) rfl (fun ls hl => ?_)
  refine lv_iconst (pc := 7) (v := iv 1) gX gB dS_changeArabs_7 rfl ?_
  refine lv_istore_n (pc := 8) (lv' := [(3, .int (iv 1)), (2, .int (iv (kd 0))), (0, .ref (sA 0)), (1, .int (iv n))]) gX gB dS_changeArabs_8 rfl hl (by decide) rfl (fun ls hl => ?_)
  have cut9 : ∀ (n0 : Nat) (le : Int) (i : Int) (g : Int → Int) (ls : Array Slot) (H : Heap) (locs : List Loc), (1 ≤ i ∧ i ≤ n + 1) → (le = stf kd (i - 1)) → (0 ≤ le ∧ le ≤ 11) → (STG n (w3 (w2 kd)) kd i g) → (RGK n g) → ((n + 1 - i : Int).toNat < n0) → lv_has ls 4 [(0, .ref (sA 0)), (1, .int (iv n)), (2, .int (iv le)), (3, .int (iv i))] → va_P (dC, dI) vwCl (wS cI cZ cG cR sA g lw od) H → va_D A0 (wS cI cZ cG cR sA g lw od) → va_S A0 s0.heap H locs → W p0 l e0 R0 s0 m0 a0 b0 t0 c0 H locs 0 0 Q0 (F0 m0 9 ls []) := by
    intro n0
    induction n0 with
    | zero => intro le i g ls H locs hi hle hl9 hg hr9 hm hl hP hD hS; exact absurd hm (Nat.not_lt_zero _)
    | succ n0 ih9 =>
      intro le i g ls H locs hi hle hl9 hg hr9 hm9 hl hP hD hS
      refine lv_iload_n (pc := 9) gX gB dS_changeArabs_9 rfl (lv_at hl 3 rfl) ?_
      refine lv_iload_n (pc := 10) gX gB dS_changeArabs_10 rfl (lv_at hl 1 rfl) ?_
      refine jv_icmp_gt (pc := 11) (tgt := 82) gX gB dS_changeArabs_11 (by decide) (by omega) (by omega) (fun h1 => ?_) (fun h1 => ?_)
      · skip
        exact hret (g) dS_changeArabs_82 (by exact stg_end hg (by omega) (hB2.2.2.trans hB3.2.2)) hP hD hS
      have a1 := hg.2 i (by omega) (by omega)
      have a3 := hr9 i (by omega) (by omega)
      have a5 := stf_s (K := kd) (i := i) (by omega)
      have cut33 : ∀ (l2 : Int) (ls : Array Slot) (H : Heap) (locs : List Loc), (l2 = stf kd i) → (0 ≤ l2 ∧ l2 ≤ 11) → lv_has ls 4 [(0, .ref (sA 0)), (1, .int (iv n)), (2, .int (iv l2)), (3, .int (iv i))] → va_P (dC, dI) vwCl (wS cI cZ cG cR sA g lw od) H → va_D A0 (wS cI cZ cG cR sA g lw od) → va_S A0 s0.heap H locs → W p0 l e0 R0 s0 m0 a0 b0 t0 c0 H locs 0 0 Q0 (F0 m0 33 ls []) := by
        intro l2 ls H locs hl2 hl29 hl hP hD hS
        have a6 : kd i = 3 → stf kd i = stf kd (i - 1) := fun z => by rw [a5, if_pos (by omega)]
        have cut76 : ∀ (g2 : Int → Int) (ls : Array Slot) (H : Heap) (locs : List Loc), (STG n (w3 (w2 kd)) kd (i + 1) g2) → (RGK n g2) → lv_has ls 4 [(0, .ref (sA 0)), (1, .int (iv n)), (2, .int (iv l2)), (3, .int (iv i))] → va_P (dC, dI) vwCl (wS cI cZ cG cR sA g2 lw od) H → va_D A0 (wS cI cZ cG cR sA g2 lw od) → va_S A0 s0.heap H locs → W p0 l e0 R0 s0 m0 a0 b0 t0 c0 H locs 0 0 Q0 (F0 m0 76 ls []) := by
          intro g2 ls H locs hg2 hr2 hl hP hD hS
          refine jv_iinc (pc := 76) (k := 3) (x := i) (n := 1) (lv' := [(3, .int (iv (i + 1))), (0, .ref (sA 0)), (1, .int (iv n)), (2, .int (iv l2))]) gX gB dS_changeArabs_76 hl rfl (by decide) rfl (fun ls hl => ?_)
          refine lv_goto (pc := 79) (tgt := 9) gX gB dS_changeArabs_79 (by decide) ?_
          exact ih9 l2 (i + 1) g2 _ _ _ (by omega) (by rw [show i + 1 - 1 = i by omega]; exact hl2) (by exact hl29) (by exact hg2) (by exact hr2) (by omega) (lv_sub hl [1, 2, 3, 0] rfl) hP hD hS
        refine lv_aload_n (pc := 33) gX gB dS_changeArabs_33 rfl (lv_at hl 0 rfl) ?_
        refine va_get (pc := 34) (D := (dC, dI)) (ci := 4) (v := .ref (sA 1)) (C := RS) (T := TS) (N := 3) gX gB hw0 inS hown hK hP 0 rfl rfl 0 (by decide) (hw0 _ q118) (fun _ h9 => h9) rfl dS_changeArabs_34 ?_
        refine lv_iload_n (pc := 37) gX gB dS_changeArabs_37 rfl (lv_at hl 3 rfl) ?_
        refine jv_iald (pc := 38) gX gB hK hP 1 0 rfl rfl (by decide) (by omega) dS_changeArabs_38 ?_
        refine lv_iconst (pc := 39) (v := iv 2) gX gB dS_changeArabs_39 rfl ?_
        refine jv_icmp_ne (pc := 40) (tgt := 53) gX gB dS_changeArabs_40 (by decide) (by omega) (by decide) (fun h2 => ?_) (fun h2 => ?_)
        · skip
          refine lv_aload_n (pc := 53) gX gB dS_changeArabs_53 rfl (lv_at hl 0 rfl) ?_
          refine va_get (pc := 54) (D := (dC, dI)) (ci := 4) (v := .ref (sA 1)) (C := RS) (T := TS) (N := 3) gX gB hw0 inS hown hK hP 0 rfl rfl 0 (by decide) (hw0 _ q118) (fun _ h9 => h9) rfl dS_changeArabs_54 ?_
          refine lv_iload_n (pc := 57) gX gB dS_changeArabs_57 rfl (lv_at hl 3 rfl) ?_
          refine jv_iald (pc := 58) gX gB hK hP 1 0 rfl rfl (by decide) (by omega) dS_changeArabs_58 ?_
          refine lv_iconst (pc := 59) (v := iv 3) gX gB dS_changeArabs_59 rfl ?_
          refine jv_icmp_ne (pc := 60) (tgt := 76) gX gB dS_changeArabs_60 (by decide) (by omega) (by decide) (fun h3 => ?_) (fun h3 => ?_)
          · skip
            exact cut76 g _ _ _ (by exact stg_keep hg (by omega) (w32_n (by omega) (fun z => by omega)).symm) (by exact hr9) hl hP hD hS
          refine lv_iload_n (pc := 63) gX gB dS_changeArabs_63 rfl (lv_at hl 2 rfl) ?_
          refine lv_iconst (pc := 64) (v := iv 2) gX gB dS_changeArabs_64 rfl ?_
          refine jv_icmp_ne (pc := 65) (tgt := 76) gX gB dS_changeArabs_65 (by decide) (by omega) (by decide) (fun h4 => ?_) (fun h4 => ?_)
          · skip
            exact cut76 g _ _ _ (by exact stg_keep hg (by omega) (w32_n (by omega) (fun z => by have := a6 z.1; omega)).symm) (by exact hr9) hl hP hD hS
          refine lv_aload_n (pc := 68) gX gB dS_changeArabs_68 rfl (lv_at hl 0 rfl) ?_
          refine va_get (pc := 69) (D := (dC, dI)) (ci := 4) (v := .ref (sA 1)) (C := RS) (T := TS) (N := 3) gX gB hw0 inS hown hK hP 0 rfl rfl 0 (by decide) (hw0 _ q118) (fun _ h9 => h9) rfl dS_changeArabs_69 ?_
          refine lv_iload_n (pc := 72) gX gB dS_changeArabs_72 rfl (lv_at hl 3 rfl) ?_
          refine lv_bipush (pc := 73) (v := iv 6) gX gB dS_changeArabs_73 (by decide) ?_
          refine jv_iast (pc := 75) (ws' := (wS cI cZ cG cR sA (uI g i 6) lw od)) gX gB hK hP hD hS 1 0 rfl rfl (by decide) (by omega) dS_changeArabs_75 rfl (fun H locs hP hD hS => ?_)
          exact cut76 (uI g i 6) _ _ _ (by exact stg_up hg (w32_3 (by omega) (by omega) (by have := a6 (by omega); omega)).symm) (by exact RGK_up hr9 (by omega)) hl hP hD hS
        refine lv_aload_n (pc := 43) gX gB dS_changeArabs_43 rfl (lv_at hl 0 rfl) ?_
        refine va_get (pc := 44) (D := (dC, dI)) (ci := 4) (v := .ref (sA 1)) (C := RS) (T := TS) (N := 3) gX gB hw0 inS hown hK hP 0 rfl rfl 0 (by decide) (hw0 _ q118) (fun _ h9 => h9) rfl dS_changeArabs_44 ?_
        refine lv_iload_n (pc := 47) gX gB dS_changeArabs_47 rfl (lv_at hl 3 rfl) ?_
        refine lv_iconst (pc := 48) (v := iv 1) gX gB dS_changeArabs_48 rfl ?_
        refine jv_iast (pc := 49) (ws' := (wS cI cZ cG cR sA (uI g i 1) lw od)) gX gB hK hP hD hS 1 0 rfl rfl (by decide) (by omega) dS_changeArabs_49 rfl (fun H locs hP hD hS => ?_)
        refine lv_goto (pc := 50) (tgt := 76) gX gB dS_changeArabs_50 (by decide) ?_
        exact cut76 (uI g i 1) _ _ _ (by exact stg_up hg (w32_2 (by omega)).symm) (by exact RGK_up hr9 (by omega)) hl hP hD hS
      refine lv_aload_n (pc := 14) gX gB dS_changeArabs_14 rfl (lv_at hl 0 rfl) ?_
      refine va_get (pc := 15) (D := (dC, dI)) (ci := 4) (v := .ref (sA 1)) (C := RS) (T := TS) (N := 3) gX gB hw0 inS hown hK hP 0 rfl rfl 0 (by decide) (hw0 _ q118) (fun _ h9 => h9) rfl dS_changeArabs_15 ?_
      refine lv_iload_n (pc := 18) gX gB dS_changeArabs_18 rfl (lv_at hl 3 rfl) ?_
      refine jv_iald (pc := 19) gX gB hK hP 1 0 rfl rfl (by decide) (by omega) dS_changeArabs_19 ?_
      refine jv_ri (pc := 20) (wr := [(sA 0, .inr (4, [.ref (sA 1), .ref (sA 2), .ref (sA 3)])), (sA 1, .inl (cI, 42, .inl (av g))), (sA 2, .inl (cI, 40, .inl (av lw))), (sA 3, .inl (cI, 40, .inl (av od)))]) (wn := fun u : Int => (wS cI cZ cG cR sA g lw od)) (va_runS (rest := []) ⟨gX, gB, hml, hown, hw0⟩ (c_S_isLetter l dC dI cI cZ cG cR  _ (g i) (by exact a3)) (jcS hw0 kS_isLetter q526 rfl rfl ⟨Nat.le_trans (Nat.le_of_ble_eq_true rfl) hRf, Nat.le_trans (Nat.le_of_ble_eq_true rfl) hRl⟩) (jv_preS hK hP hD [] rfl (by decide)) rfl rfl hl.1 rfl (lv_room (Nat.le_of_ble_eq_true rfl)) dS_changeArabs_20 ⟨Nat.zero_le _, Nat.zero_le _⟩) hP hD hS hA [] [0, 1, 2, 3] [0, 1, 2, 3] rfl rfl (by decide) (by decide) (by decide) (fun _ => rfl) (fun r0 u H locs hw20 hP hD hS => ?_)
      obtain ⟨r_20, hu⟩ : ∃ z, z = u := ⟨_, rfl⟩; subst hu
      obtain ⟨rfl, hw20⟩ := hw20
      refine jv_if_eq (pc := 23) (tgt := 33) gX gB dS_changeArabs_23 (by decide) (by omega) (fun h5 => ?_) (fun h5 => ?_)
      · skip
        exact cut33 le _ _ _ (by rw [a5, if_pos (by omega)]; exact hle) (by exact hl9) hl hP hD hS
      refine lv_aload_n (pc := 26) gX gB dS_changeArabs_26 rfl (lv_at hl 0 rfl) ?_
      refine va_get (pc := 27) (D := (dC, dI)) (ci := 4) (v := .ref (sA 1)) (C := RS) (T := TS) (N := 3) gX gB hw0 inS hown hK hP 0 rfl rfl 0 (by decide) (hw0 _ q118) (fun _ h9 => h9) rfl dS_changeArabs_27 ?_
      refine lv_iload_n (pc := 30) gX gB dS_changeArabs_30 rfl (lv_at hl 3 rfl) ?_
      refine jv_iald (pc := 31) gX gB hK hP 1 0 rfl rfl (by decide) (by omega) dS_changeArabs_31 ?_
      refine lv_istore_n (pc := 32) (lv' := [(2, .int (iv (g i))), (0, .ref (sA 0)), (1, .int (iv n)), (3, .int (iv i))]) gX gB dS_changeArabs_32 rfl hl (by decide) rfl (fun ls hl => ?_)
      exact cut33 (g i) _ _ _ (by rw [a5, if_neg (by omega)]; exact a1) (by exact a3) (lv_sub hl [1, 2, 0, 3] rfl) hP hD hS
  exact cut9 (((n + 1 - 1 : Int).toNat) + 1) (kd 0) 1 kd _ _ _ (by omega) (by rfl) (by exact hk0) (by exact stg_0 (hB2.2.1.trans hB3.2.1)) (by exact hB.2.2) (Nat.lt_succ_self _) (lv_sub hl [2, 3, 1, 0] rfl) hP hD hS
set_option maxRecDepth 100000 in
set_option maxHeartbeats 2000000 in
theorem c_S_joinNumbers (l : Launch) (dC : Nat → ClassId) (dI : Nat → Nat → Nat) (cI : ClassId) (cZ : ClassId) (cG : ClassId) (cR : ClassId) (sA : Nat → Nat) (kd : Int → Int) (lw : Int → Int) (od : Int → Int) (sz : Nat) (n : Int) (hn9 : 0 ≤ n ∧ n ≤ 40) (hB : BS n kd) : Met l yS_joinNumbers wsS_joinNumbers ({ frames := 0, cells := 0, slots := 0, locals := 0 }) (va_Pc [.ref (sA 0), .int (iv n)] (jPre (dC, dI) (jT cI cZ cG cR) (wS cI cZ cG cR sA kd lw od) sz)) (va_Qv (fun u : (Int → Int) => EqR n u (w4 kd)) (fun u => jEnd (dC, dI) (jT cI cZ cG cR) (va_A (wS cI cZ cG cR sA kd lw od) sz) (wS cI cZ cG cR sA u lw od)) (va_A (wS cI cZ cG cR sA kd lw od) sz)) 0 0 (va_A (wS cI cZ cG cR sA kd lw od) sz) := by
  refine jv_mv (cc := cS_joinNumbers) (maxL := 5) (by decide) rfl (Nat.le_of_ble_eq_true rfl) ?_
  intro p0 e0 s0 m0 a0 b0 t0 c0 R0 Q0 A0 ls gX gB hts hown hml hRf hRl hA hK hret hl hP hD hS
  have hown : s0.vm.findClass "TextPipeline$Sides" = some m0.cls := hown
  have hw0 : ∀ w ∈ WS0, w.before a0 s0 = true := fun w h => hts w (List.mem_cons_of_mem _ h)
  have hl : lv_has ls 5 [(0, .ref (sA 0)), (1, .int (iv n))] := hl
  have hRf : 0 ≤ R0.frames := hRf
  have hRl : 0 ≤ R0.locals := hRl
  have hB4 := BS_4 hn9.1 hB
  refine lv_iconst (pc := 0) (v := iv 1) gX gB dS_joinNumbers_0 rfl ?_
  refine lv_istore_n (pc := 1) (lv' := [(2, .int (iv 1)), (0, .ref (sA 0)), (1, .int (iv n))]) gX gB dS_joinNumbers_1 rfl hl (by decide) rfl (fun ls hl => ?_)
  have cut2 : ∀ (n0 : Nat) (i : Int) (g : Int → Int) (ls : Array Slot) (H : Heap) (locs : List Loc), (1 ≤ i ∧ i ≤ n + 1) → (STG n (w4 kd) kd i g) → (RGK n g) → ((n + 1 - i : Int).toNat < n0) → lv_has ls 5 [(0, .ref (sA 0)), (1, .int (iv n)), (2, .int (iv i))] → va_P (dC, dI) vwCl (wS cI cZ cG cR sA g lw od) H → va_D A0 (wS cI cZ cG cR sA g lw od) → va_S A0 s0.heap H locs → W p0 l e0 R0 s0 m0 a0 b0 t0 c0 H locs 0 0 Q0 (F0 m0 2 ls []) := by
    intro n0
    induction n0 with
    | zero => intro i g ls H locs hi hg hr9 hm hl hP hD hS; exact absurd hm (Nat.not_lt_zero _)
    | succ n0 ih2 =>
      intro i g ls H locs hi hg hr9 hm2 hl hP hD hS
      refine lv_iload_n (pc := 2) gX gB dS_joinNumbers_2 rfl (lv_at hl 2 rfl) ?_
      refine lv_iload_n (pc := 3) gX gB dS_joinNumbers_3 rfl (lv_at hl 1 rfl) ?_
      refine jv_icmp_gt (pc := 4) (tgt := 99) gX gB dS_joinNumbers_4 (by decide) (by omega) (by omega) (fun h1 => ?_) (fun h1 => ?_)
      · skip
        exact hret (g) dS_joinNumbers_99 (by exact stg_end hg (by omega) hB4.2.2) hP hD hS
      have a1 := hg.2 i (by omega) (by omega)
      have a2 := hg.1 (i - 1) (by omega) (by omega)
      have a3 := hr9 i (by omega) (by omega)
      have a4 := hr9 (i - 1) (by omega) (by omega)
      have a6 := hg.2 (i + 1) (by omega) (by omega)
      have a7 := hr9 (i + 1) (by omega) (by omega)
      have a5 := w4_s (K := kd) (i := i) (by omega)
      rw [← a2, ← a6, ← a1] at a5
      have cut93 : ∀ (g2 : Int → Int) (ls : Array Slot) (H : Heap) (locs : List Loc), (STG n (w4 kd) kd (i + 1) g2) → (RGK n g2) → lv_has ls 5 [(0, .ref (sA 0)), (1, .int (iv n)), (2, .int (iv i))] → va_P (dC, dI) vwCl (wS cI cZ cG cR sA g2 lw od) H → va_D A0 (wS cI cZ cG cR sA g2 lw od) → va_S A0 s0.heap H locs → W p0 l e0 R0 s0 m0 a0 b0 t0 c0 H locs 0 0 Q0 (F0 m0 93 ls []) := by
        intro g2 ls H locs hg2 hr2 hl hP hD hS
        refine jv_iinc (pc := 93) (k := 2) (x := i) (n := 1) (lv' := [(2, .int (iv (i + 1))), (0, .ref (sA 0)), (1, .int (iv n))]) gX gB dS_joinNumbers_93 hl rfl (by decide) rfl (fun ls hl => ?_)
        refine lv_goto (pc := 96) (tgt := 2) gX gB dS_joinNumbers_96 (by decide) ?_
        exact ih2 (i + 1) g2 _ _ _ (by omega) (by exact hg2) (by exact hr2) (by omega) (lv_sub hl [1, 2, 0] rfl) hP hD hS
      refine lv_aload_n (pc := 7) gX gB dS_joinNumbers_7 rfl (lv_at hl 0 rfl) ?_
      refine va_get (pc := 8) (D := (dC, dI)) (ci := 4) (v := .ref (sA 1)) (C := RS) (T := TS) (N := 3) gX gB hw0 inS hown hK hP 0 rfl rfl 0 (by decide) (hw0 _ q118) (fun _ h9 => h9) rfl dS_joinNumbers_8 ?_
      refine lv_iload_n (pc := 11) gX gB dS_joinNumbers_11 rfl (lv_at hl 2 rfl) ?_
      refine lv_iconst (pc := 12) (v := iv 1) gX gB dS_joinNumbers_12 rfl ?_
      refine jv_isub (pc := 13) (x := i) (y := 1) gX gB dS_joinNumbers_13 ?_
      refine jv_iald (pc := 14) gX gB hK hP 1 0 rfl rfl (by decide) (by omega) dS_joinNumbers_14 ?_
      refine lv_istore_n (pc := 15) (lv' := [(3, .int (iv (g (i - 1)))), (0, .ref (sA 0)), (1, .int (iv n)), (2, .int (iv i))]) gX gB dS_joinNumbers_15 rfl hl (by decide) rfl (fun ls hl => ?_)
      refine lv_iload_n (pc := 16) gX gB dS_joinNumbers_16 rfl (lv_at hl 0 rfl) ?_
      refine lv_aload_n (pc := 17) gX gB dS_joinNumbers_17 rfl (lv_at hl 1 rfl) ?_
      refine va_get (pc := 18) (D := (dC, dI)) (ci := 4) (v := .ref (sA 1)) (C := RS) (T := TS) (N := 3) gX gB hw0 inS hown hK hP 0 rfl rfl 0 (by decide) (hw0 _ q118) (fun _ h9 => h9) rfl dS_joinNumbers_18 ?_
      refine lv_iload_n (pc := 21) gX gB dS_joinNumbers_21 rfl (lv_at hl 3 rfl) ?_
      refine lv_iconst (pc := 22) (v := iv 1) gX gB dS_joinNumbers_22 rfl ?_
      refine jv_iadd (pc := 23) (x := i) (y := 1) gX gB dS_joinNumbers_23 ?_
      refine jv_iald (pc := 24) gX gB hK hP 1 0 rfl rfl (by decide) (by omega) dS_joinNumbers_24 ?_
      refine jv_icmp_ne (pc := 25) (tgt := 93) gX gB dS_joinNumbers_25 (by decide) (by omega) (by omega) (fun h2 => ?_) (fun h2 => ?_)
      · skip
        exact cut93 g _ _ _ (by exact stg_keep hg (by omega) (by rw [a5, if_neg (fun z => absurd z.1 (by assumption))]; exact a1.symm)) (by exact hr9) (lv_sub hl [1, 2, 3] rfl) hP hD hS
      have hxy : g (i - 1) = g (i + 1) := by assumption
      have cut70 : ∀ (is : Int) (ls : Array Slot) (H : Heap) (locs : List Loc), ((is = 1 ∧ ((g i = 4 ∧ g (i - 1) = 3) ∨ (g i = 7 ∧ (g (i - 1) = 3 ∨ g (i - 1) = 6)))) ∨ (is = 0 ∧ ¬ ((g i = 4 ∧ g (i - 1) = 3) ∨ (g i = 7 ∧ (g (i - 1) = 3 ∨ g (i - 1) = 6))))) → lv_has ls 5 [(0, .ref (sA 0)), (1, .int (iv n)), (2, .int (iv i)), (3, .int (iv (g (i - 1))))] → va_P (dC, dI) vwCl (wS cI cZ cG cR sA g lw od) H → va_D A0 (wS cI cZ cG cR sA g lw od) → va_S A0 s0.heap H locs → W p0 l e0 R0 s0 m0 a0 b0 t0 c0 H locs 0 0 Q0 (F0 m0 70 ls [.int (iv is)]) := by
        intro is ls H locs his hl hP hD hS
        refine lv_istore (pc := 70) (lv' := [(4, .int (iv is)), (0, .ref (sA 0)), (1, .int (iv n)), (2, .int (iv i)), (3, .int (iv (g (i - 1))))]) gX gB dS_joinNumbers_70 hl (by decide) rfl (fun ls hl => ?_)
        have rgs : -2147483648 ≤ is ∧ is < 2147483648 := by rcases his with z | z <;> (rw [z.1]; decide)
        refine lv_aload_n (pc := 72) gX gB dS_joinNumbers_72 rfl (lv_at hl 1 rfl) ?_
        refine va_get (pc := 73) (D := (dC, dI)) (ci := 4) (v := .ref (sA 1)) (C := RS) (T := TS) (N := 3) gX gB hw0 inS hown hK hP 0 rfl rfl 0 (by decide) (hw0 _ q118) (fun _ h9 => h9) rfl dS_joinNumbers_73 ?_
        refine lv_iload_n (pc := 76) gX gB dS_joinNumbers_76 rfl (lv_at hl 3 rfl) ?_
        have cut92 : ∀ (v : Int) (ls : Array Slot) (H : Heap) (locs : List Loc), (v = w4 kd i) → (0 ≤ v ∧ v ≤ 11) → lv_has ls 5 [(0, .ref (sA 0)), (1, .int (iv n)), (2, .int (iv i))] → va_P (dC, dI) vwCl (wS cI cZ cG cR sA g lw od) H → va_D A0 (wS cI cZ cG cR sA g lw od) → va_S A0 s0.heap H locs → W p0 l e0 R0 s0 m0 a0 b0 t0 c0 H locs 0 0 Q0 (F0 m0 92 ls [.int (iv v), .int (iv i), .ref (sA 1)]) := by
          intro v ls H locs hv9 hvr hl hP hD hS
          refine jv_iast (pc := 92) (ws' := (wS cI cZ cG cR sA (uI g i v) lw od)) gX gB hK hP hD hS 1 0 rfl rfl (by decide) (by omega) dS_joinNumbers_92 rfl (fun H locs hP hD hS => ?_)
          exact cut93 (uI g i v) _ _ _ (by exact stg_up hg hv9) (by exact RGK_up hr9 hvr) hl hP hD hS
        refine lv_iload (pc := 77) gX gB dS_joinNumbers_77 (lv_at hl 0 rfl) ?_
        refine jv_if_eq (pc := 79) (tgt := 86) gX gB dS_joinNumbers_79 (by decide) rgs (fun h3 => ?_) (fun h3 => ?_)
        · skip
          refine lv_aload_n (pc := 86) gX gB dS_joinNumbers_86 rfl (lv_at hl 1 rfl) ?_
          refine va_get (pc := 87) (D := (dC, dI)) (ci := 4) (v := .ref (sA 1)) (C := RS) (T := TS) (N := 3) gX gB hw0 inS hown hK hP 0 rfl rfl 0 (by decide) (hw0 _ q118) (fun _ h9 => h9) rfl dS_joinNumbers_87 ?_
          refine lv_iload_n (pc := 90) gX gB dS_joinNumbers_90 rfl (lv_at hl 3 rfl) ?_
          refine jv_iald (pc := 91) gX gB hK hP 1 0 rfl rfl (by decide) (by omega) dS_joinNumbers_91 ?_
          exact cut92 (g i) _ _ _ (by rw [a5, if_neg (fun q => by rcases his with z | z; (exact absurd z.1 (by omega)); exact z.2 q.2)]) (by exact a3) (lv_sub hl [1, 2, 3] rfl) hP hD hS
        refine lv_iload_n (pc := 82) gX gB dS_joinNumbers_82 rfl (lv_at hl 4 rfl) ?_
        refine lv_goto (pc := 83) (tgt := 92) gX gB dS_joinNumbers_83 (by decide) ?_
        exact cut92 (g (i - 1)) _ _ _ (by rw [a5, if_pos ⟨hxy, by rcases his with z | z; exact z.2; exact absurd z.1 (by assumption)⟩]) (by exact a4) (lv_sub hl [1, 2, 3] rfl) hP hD hS
      have cut69 : ∀ (ls : Array Slot) (H : Heap) (locs : List Loc), (¬ ((g i = 4 ∧ g (i - 1) = 3) ∨ (g i = 7 ∧ (g (i - 1) = 3 ∨ g (i - 1) = 6)))) → lv_has ls 5 [(0, .ref (sA 0)), (1, .int (iv n)), (2, .int (iv i)), (3, .int (iv (g (i - 1))))] → va_P (dC, dI) vwCl (wS cI cZ cG cR sA g lw od) H → va_D A0 (wS cI cZ cG cR sA g lw od) → va_S A0 s0.heap H locs → W p0 l e0 R0 s0 m0 a0 b0 t0 c0 H locs 0 0 Q0 (F0 m0 69 ls []) := by
        intro  ls H locs h69 hl hP hD hS
        refine lv_iconst (pc := 69) (v := iv 0) gX gB dS_joinNumbers_69 rfl ?_
        exact cut70 0 _ _ _ (by exact Or.inr ⟨rfl, h69⟩) hl hP hD hS
      have cut65 : ∀ (ls : Array Slot) (H : Heap) (locs : List Loc), (((g i = 4 ∧ g (i - 1) = 3) ∨ (g i = 7 ∧ (g (i - 1) = 3 ∨ g (i - 1) = 6)))) → lv_has ls 5 [(0, .ref (sA 0)), (1, .int (iv n)), (2, .int (iv i)), (3, .int (iv (g (i - 1))))] → va_P (dC, dI) vwCl (wS cI cZ cG cR sA g lw od) H → va_D A0 (wS cI cZ cG cR sA g lw od) → va_S A0 s0.heap H locs → W p0 l e0 R0 s0 m0 a0 b0 t0 c0 H locs 0 0 Q0 (F0 m0 65 ls []) := by
        intro  ls H locs h65 hl hP hD hS
        refine lv_iconst (pc := 65) (v := iv 1) gX gB dS_joinNumbers_65 rfl ?_
        refine lv_goto (pc := 66) (tgt := 70) gX gB dS_joinNumbers_66 (by decide) ?_
        exact cut70 1 _ _ _ (by exact Or.inl ⟨rfl, h65⟩) hl hP hD hS
      have cut43 : ∀ (ls : Array Slot) (H : Heap) (locs : List Loc), (¬ (g i = 4 ∧ g (i - 1) = 3)) → lv_has ls 5 [(0, .ref (sA 0)), (1, .int (iv n)), (2, .int (iv i)), (3, .int (iv (g (i - 1))))] → va_P (dC, dI) vwCl (wS cI cZ cG cR sA g lw od) H → va_D A0 (wS cI cZ cG cR sA g lw od) → va_S A0 s0.heap H locs → W p0 l e0 R0 s0 m0 a0 b0 t0 c0 H locs 0 0 Q0 (F0 m0 43 ls []) := by
        intro  ls H locs h43 hl hP hD hS
        refine lv_aload_n (pc := 43) gX gB dS_joinNumbers_43 rfl (lv_at hl 0 rfl) ?_
        refine va_get (pc := 44) (D := (dC, dI)) (ci := 4) (v := .ref (sA 1)) (C := RS) (T := TS) (N := 3) gX gB hw0 inS hown hK hP 0 rfl rfl 0 (by decide) (hw0 _ q118) (fun _ h9 => h9) rfl dS_joinNumbers_44 ?_
        refine lv_iload_n (pc := 47) gX gB dS_joinNumbers_47 rfl (lv_at hl 2 rfl) ?_
        refine jv_iald (pc := 48) gX gB hK hP 1 0 rfl rfl (by decide) (by omega) dS_joinNumbers_48 ?_
        refine lv_bipush (pc := 49) (v := iv 7) gX gB dS_joinNumbers_49 (by decide) ?_
        refine jv_icmp_ne (pc := 51) (tgt := 69) gX gB dS_joinNumbers_51 (by decide) (by omega) (by decide) (fun h4 => ?_) (fun h4 => ?_)
        · skip
          exact cut69  _ _ _ (by exact fun z => by rcases z with z | z; exact h43 z; exact absurd z.1 (by assumption)) hl hP hD hS
        refine lv_iload_n (pc := 54) gX gB dS_joinNumbers_54 rfl (lv_at hl 3 rfl) ?_
        refine lv_iconst (pc := 55) (v := iv 3) gX gB dS_joinNumbers_55 rfl ?_
        refine jv_icmp_eq (pc := 56) (tgt := 65) gX gB dS_joinNumbers_56 (by decide) (by omega) (by decide) (fun h5 => ?_) (fun h5 => ?_)
        · skip
          exact cut65  _ _ _ (by exact Or.inr ⟨by assumption, Or.inl (by assumption)⟩) hl hP hD hS
        refine lv_iload_n (pc := 59) gX gB dS_joinNumbers_59 rfl (lv_at hl 3 rfl) ?_
        refine lv_bipush (pc := 60) (v := iv 6) gX gB dS_joinNumbers_60 (by decide) ?_
        refine jv_icmp_ne (pc := 62) (tgt := 69) gX gB dS_joinNumbers_62 (by decide) (by omega) (by decide) (fun h6 => ?_) (fun h6 => ?_)
        · skip
          exact cut69  _ _ _ (by exact fun z => by rcases z with z | z; exact h43 z; (rcases z.2 with w | w; exact absurd w (by assumption); exact absurd w (by assumption))) hl hP hD hS
        exact cut65  _ _ _ (by exact Or.inr ⟨by assumption, Or.inr (by assumption)⟩) hl hP hD hS
      refine lv_aload_n (pc := 28) gX gB dS_joinNumbers_28 rfl (lv_at hl 1 rfl) ?_
      refine va_get (pc := 29) (D := (dC, dI)) (ci := 4) (v := .ref (sA 1)) (C := RS) (T := TS) (N := 3) gX gB hw0 inS hown hK hP 0 rfl rfl 0 (by decide) (hw0 _ q118) (fun _ h9 => h9) rfl dS_joinNumbers_29 ?_
      refine lv_iload_n (pc := 32) gX gB dS_joinNumbers_32 rfl (lv_at hl 3 rfl) ?_
      refine jv_iald (pc := 33) gX gB hK hP 1 0 rfl rfl (by decide) (by omega) dS_joinNumbers_33 ?_
      refine lv_iconst (pc := 34) (v := iv 4) gX gB dS_joinNumbers_34 rfl ?_
      refine jv_icmp_ne (pc := 35) (tgt := 43) gX gB dS_joinNumbers_35 (by decide) (by omega) (by decide) (fun h7 => ?_) (fun h7 => ?_)
      · skip
        exact cut43  _ _ _ (by exact fun z => absurd z.1 (by assumption)) (lv_sub hl [1, 2, 3, 0] rfl) hP hD hS
      refine lv_iload_n (pc := 38) gX gB dS_joinNumbers_38 rfl (lv_at hl 0 rfl) ?_
      refine lv_iconst (pc := 39) (v := iv 3) gX gB dS_joinNumbers_39 rfl ?_
      refine jv_icmp_eq (pc := 40) (tgt := 65) gX gB dS_joinNumbers_40 (by decide) (by omega) (by decide) (fun h8 => ?_) (fun h8 => ?_)
      · skip
        exact cut65  _ _ _ (by exact Or.inl ⟨by assumption, by assumption⟩) (lv_sub hl [1, 2, 3, 0] rfl) hP hD hS
      exact cut43  _ _ _ (by exact fun z => absurd z.2 (by assumption)) (lv_sub hl [1, 2, 3, 0] rfl) hP hD hS
  exact cut2 (((n + 1 - 1 : Int).toNat) + 1) 1 kd _ _ _ (by omega) (by exact stg_0 hB4.2.1) (by exact hB.2.2) (Nat.lt_succ_self _) (lv_sub hl [1, 2, 0] rfl) hP hD hS
set_option maxRecDepth 100000 in
set_option maxHeartbeats 1000000 in
theorem c_S_changeLeftNumbers (l : Launch) (dC : Nat → ClassId) (dI : Nat → Nat → Nat) (cI : ClassId) (cZ : ClassId) (cG : ClassId) (cR : ClassId) (sA : Nat → Nat) (kd : Int → Int) (lw : Int → Int) (od : Int → Int) (sz : Nat) (n : Int) (hn9 : 0 ≤ n ∧ n ≤ 40) (hB : BS n kd) (h2 : N2 n kd) : Met l yS_changeLeftNumbers wsS_changeLeftNumbers ({ frames := 0, cells := 0, slots := 0, locals := 0 }) (va_Pc [.ref (sA 0), .int (iv n)] (jPre (dC, dI) (jT cI cZ cG cR) (wS cI cZ cG cR sA kd lw od) sz)) (va_Qv (fun u : (Int → Int) => EqR n u (w7 kd)) (fun u => jEnd (dC, dI) (jT cI cZ cG cR) (va_A (wS cI cZ cG cR sA kd lw od) sz) (wS cI cZ cG cR sA u lw od)) (va_A (wS cI cZ cG cR sA kd lw od) sz)) 0 0 (va_A (wS cI cZ cG cR sA kd lw od) sz) := by
  refine jv_mv (cc := cS_changeLeftNumbers) (maxL := 4) (by decide) rfl (Nat.le_of_ble_eq_true rfl) ?_
  intro p0 e0 s0 m0 a0 b0 t0 c0 R0 Q0 A0 ls gX gB hts hown hml hRf hRl hA hK hret hl hP hD hS
  have hown : s0.vm.findClass "TextPipeline$Sides" = some m0.cls := hown
  have hw0 : ∀ w ∈ WS0, w.before a0 s0 = true := fun w h => hts w (List.mem_cons_of_mem _ h)
  have hl : lv_has ls 4 [(0, .ref (sA 0)), (1, .int (iv n))] := hl
  have hRf : 0 ≤ R0.frames := hRf
  have hRl : 0 ≤ R0.locals := hRl
  have hB7 := BS_7 hn9.1 hB
  have hk0 := hB.2.2 0 (by omega) (by omega)
  refine lv_aload_n (pc := 0) gX gB dS_changeLeftNumbers_0 rfl (lv_at hl 0 rfl) ?_
  refine va_get (pc := 1) (D := (dC, dI)) (ci := 4) (v := .ref (sA 1)) (C := RS) (T := TS) (N := 3) gX gB hw0 inS hown hK hP 0 rfl rfl 0 (by decide) (hw0 _ q118) (fun _ h9 => h9) rfl dS_changeLeftNumbers_1 ?_
  refine lv_iconst (pc := 4) (v := iv 0) gX gB dS_changeLeftNumbers_4 rfl ?_
  refine jv_iald (pc := 5) gX gB hK hP 1 0 rfl rfl (by decide) (by omega) dS_changeLeftNumbers_5 ?_
  refine lv_istore_n (pc := 6) (lv' := [(2, .int (iv (kd 0))), (0, .ref (sA 0)), (1, .int (iv n))]) gX gB dS_changeLeftNumbers_6 rfl hl (by decide) rfl (fun ls hl => ?_)
  refine lv_iconst (pc := 7) (v := iv 1) gX gB dS_changeLeftNumbers_7 rfl ?_
  refine lv_istore_n (pc := 8) (lv' := [(3, .int (iv 1)), (2, .int (iv (kd 0))), (0, .ref (sA 0)), (1, .int (iv n))]) gX gB dS_changeLeftNumbers_8 rfl hl (by decide) rfl (fun ls hl => ?_)
  have cut9 : ∀ (n0 : Nat) (le : Int) (i : Int) (g : Int → Int) (ls : Array Slot) (H : Heap) (locs : List Loc), (1 ≤ i ∧ i ≤ n + 1) → (le = stf kd (i - 1)) → (0 ≤ le ∧ le ≤ 11) → (STG n (w7 kd) kd i g) → (RGK n g) → ((n + 1 - i : Int).toNat < n0) → lv_has ls 4 [(0, .ref (sA 0)), (1, .int (iv n)), (2, .int (iv le)), (3, .int (iv i))] → va_P (dC, dI) vwCl (wS cI cZ cG cR sA g lw od) H → va_D A0 (wS cI cZ cG cR sA g lw od) → va_S A0 s0.heap H locs → W p0 l e0 R0 s0 m0 a0 b0 t0 c0 H locs 0 0 Q0 (F0 m0 9 ls []) := by
    intro n0
    induction n0 with
    | zero => intro le i g ls H locs hi hle hl9 hg hr9 hm hl hP hD hS; exact absurd hm (Nat.not_lt_zero _)
    | succ n0 ih9 =>
      intro le i g ls H locs hi hle hl9 hg hr9 hm9 hl hP hD hS
      refine lv_iload_n (pc := 9) gX gB dS_changeLeftNumbers_9 rfl (lv_at hl 3 rfl) ?_
      refine lv_iload_n (pc := 10) gX gB dS_changeLeftNumbers_10 rfl (lv_at hl 1 rfl) ?_
      refine jv_icmp_gt (pc := 11) (tgt := 70) gX gB dS_changeLeftNumbers_11 (by decide) (by omega) (by omega) (fun h1 => ?_) (fun h1 => ?_)
      · skip
        exact hret (g) dS_changeLeftNumbers_70 (by exact stg_end hg (by omega) hB7.2.2) hP hD hS
      have a1 := hg.2 i (by omega) (by omega)
      have a3 := hr9 i (by omega) (by omega)
      have a5 := stf_s (K := kd) (i := i) (by omega)
      have a8 := h2 i (by omega) (by omega)
      have cut64 : ∀ (l2 : Int) (g2 : Int → Int) (ls : Array Slot) (H : Heap) (locs : List Loc), (l2 = stf kd i) → (0 ≤ l2 ∧ l2 ≤ 11) → (STG n (w7 kd) kd (i + 1) g2) → (RGK n g2) → lv_has ls 4 [(0, .ref (sA 0)), (1, .int (iv n)), (2, .int (iv l2)), (3, .int (iv i))] → va_P (dC, dI) vwCl (wS cI cZ cG cR sA g2 lw od) H → va_D A0 (wS cI cZ cG cR sA g2 lw od) → va_S A0 s0.heap H locs → W p0 l e0 R0 s0 m0 a0 b0 t0 c0 H locs 0 0 Q0 (F0 m0 64 ls []) := by
        intro l2 g2 ls H locs hl2 hl29 hg2 hr2 hl hP hD hS
        refine jv_iinc (pc := 64) (k := 3) (x := i) (n := 1) (lv' := [(3, .int (iv (i + 1))), (0, .ref (sA 0)), (1, .int (iv n)), (2, .int (iv l2))]) gX gB dS_changeLeftNumbers_64 hl rfl (by decide) rfl (fun ls hl => ?_)
        refine lv_goto (pc := 67) (tgt := 9) gX gB dS_changeLeftNumbers_67 (by decide) ?_
        exact ih9 l2 (i + 1) g2 _ _ _ (by omega) (by rw [show i + 1 - 1 = i by omega]; exact hl2) (by exact hl29) (by exact hg2) (by exact hr2) (by omega) (lv_sub hl [1, 2, 3, 0] rfl) hP hD hS
      have cut43 : ∀ (ls : Array Slot) (H : Heap) (locs : List Loc), (kd i ≠ 0 ∧ kd i ≠ 1) → lv_has ls 4 [(0, .ref (sA 0)), (1, .int (iv n)), (2, .int (iv le)), (3, .int (iv i))] → va_P (dC, dI) vwCl (wS cI cZ cG cR sA g lw od) H → va_D A0 (wS cI cZ cG cR sA g lw od) → va_S A0 s0.heap H locs → W p0 l e0 R0 s0 m0 a0 b0 t0 c0 H locs 0 0 Q0 (F0 m0 43 ls []) := by
        intro  ls H locs h43 hl hP hD hS
        have a9 : stf kd i = stf kd (i - 1) := by rw [a5, if_pos (by omega)]
        refine lv_aload_n (pc := 43) gX gB dS_changeLeftNumbers_43 rfl (lv_at hl 0 rfl) ?_
        refine va_get (pc := 44) (D := (dC, dI)) (ci := 4) (v := .ref (sA 1)) (C := RS) (T := TS) (N := 3) gX gB hw0 inS hown hK hP 0 rfl rfl 0 (by decide) (hw0 _ q118) (fun _ h9 => h9) rfl dS_changeLeftNumbers_44 ?_
        refine lv_iload_n (pc := 47) gX gB dS_changeLeftNumbers_47 rfl (lv_at hl 3 rfl) ?_
        refine jv_iald (pc := 48) gX gB hK hP 1 0 rfl rfl (by decide) (by omega) dS_changeLeftNumbers_48 ?_
        refine lv_iconst (pc := 49) (v := iv 3) gX gB dS_changeLeftNumbers_49 rfl ?_
        refine jv_icmp_ne (pc := 50) (tgt := 64) gX gB dS_changeLeftNumbers_50 (by decide) (by omega) (by decide) (fun h2 => ?_) (fun h2 => ?_)
        · skip
          exact cut64 le g _ _ _ (by rw [a9]; exact hle) (by exact hl9) (by exact stg_keep hg (by omega) (if_neg (fun z => by omega)).symm) (by exact hr9) hl hP hD hS
        refine lv_iload_n (pc := 53) gX gB dS_changeLeftNumbers_53 rfl (lv_at hl 2 rfl) ?_
        refine jv_if_ne (pc := 54) (tgt := 64) gX gB dS_changeLeftNumbers_54 (by decide) (by omega) (fun h3 => ?_) (fun h3 => ?_)
        · skip
          exact cut64 le g _ _ _ (by rw [a9]; exact hle) (by exact hl9) (by exact stg_keep hg (by omega) (if_neg (fun z => by omega)).symm) (by exact hr9) hl hP hD hS
        refine lv_aload_n (pc := 57) gX gB dS_changeLeftNumbers_57 rfl (lv_at hl 0 rfl) ?_
        refine va_get (pc := 58) (D := (dC, dI)) (ci := 4) (v := .ref (sA 1)) (C := RS) (T := TS) (N := 3) gX gB hw0 inS hown hK hP 0 rfl rfl 0 (by decide) (hw0 _ q118) (fun _ h9 => h9) rfl dS_changeLeftNumbers_58 ?_
        refine lv_iload_n (pc := 61) gX gB dS_changeLeftNumbers_61 rfl (lv_at hl 3 rfl) ?_
        refine lv_iconst (pc := 62) (v := iv 0) gX gB dS_changeLeftNumbers_62 rfl ?_
        refine jv_iast (pc := 63) (ws' := (wS cI cZ cG cR sA (uI g i 0) lw od)) gX gB hK hP hD hS 1 0 rfl rfl (by decide) (by omega) dS_changeLeftNumbers_63 rfl (fun H locs hP hD hS => ?_)
        exact cut64 le (uI g i 0) _ _ _ (by rw [a9]; exact hle) (by exact hl9) (by exact stg_up hg (if_pos ⟨by omega, by omega, by omega⟩).symm) (by exact RGK_up hr9 (by omega)) hl hP hD hS
      have cut33 : ∀ (ls : Array Slot) (H : Heap) (locs : List Loc), (kd i = 0 ∨ kd i = 1) → lv_has ls 4 [(0, .ref (sA 0)), (1, .int (iv n)), (2, .int (iv le)), (3, .int (iv i))] → va_P (dC, dI) vwCl (wS cI cZ cG cR sA g lw od) H → va_D A0 (wS cI cZ cG cR sA g lw od) → va_S A0 s0.heap H locs → W p0 l e0 R0 s0 m0 a0 b0 t0 c0 H locs 0 0 Q0 (F0 m0 33 ls []) := by
        intro  ls H locs h33 hl hP hD hS
        refine lv_aload_n (pc := 33) gX gB dS_changeLeftNumbers_33 rfl (lv_at hl 0 rfl) ?_
        refine va_get (pc := 34) (D := (dC, dI)) (ci := 4) (v := .ref (sA 1)) (C := RS) (T := TS) (N := 3) gX gB hw0 inS hown hK hP 0 rfl rfl 0 (by decide) (hw0 _ q118) (fun _ h9 => h9) rfl dS_changeLeftNumbers_34 ?_
        refine lv_iload_n (pc := 37) gX gB dS_changeLeftNumbers_37 rfl (lv_at hl 3 rfl) ?_
        refine jv_iald (pc := 38) gX gB hK hP 1 0 rfl rfl (by decide) (by omega) dS_changeLeftNumbers_38 ?_
        refine lv_istore_n (pc := 39) (lv' := [(2, .int (iv (g i))), (0, .ref (sA 0)), (1, .int (iv n)), (3, .int (iv i))]) gX gB dS_changeLeftNumbers_39 rfl hl (by decide) rfl (fun ls hl => ?_)
        refine lv_goto (pc := 40) (tgt := 64) gX gB dS_changeLeftNumbers_40 (by decide) ?_
        exact cut64 (g i) g _ _ _ (by rw [a5, if_neg (by omega)]; exact a1) (by exact a3) (by exact stg_keep hg (by omega) (if_neg (fun z => by omega)).symm) (by exact hr9) (lv_sub hl [1, 2, 0, 3] rfl) hP hD hS
      refine lv_aload_n (pc := 14) gX gB dS_changeLeftNumbers_14 rfl (lv_at hl 0 rfl) ?_
      refine va_get (pc := 15) (D := (dC, dI)) (ci := 4) (v := .ref (sA 1)) (C := RS) (T := TS) (N := 3) gX gB hw0 inS hown hK hP 0 rfl rfl 0 (by decide) (hw0 _ q118) (fun _ h9 => h9) rfl dS_changeLeftNumbers_15 ?_
      refine lv_iload_n (pc := 18) gX gB dS_changeLeftNumbers_18 rfl (lv_at hl 3 rfl) ?_
      refine jv_iald (pc := 19) gX gB hK hP 1 0 rfl rfl (by decide) (by omega) dS_changeLeftNumbers_19 ?_
      refine jv_if_eq (pc := 20) (tgt := 33) gX gB dS_changeLeftNumbers_20 (by decide) (by omega) (fun h4 => ?_) (fun h4 => ?_)
      · skip
        exact cut33  _ _ _ (by exact Or.inl (by omega)) hl hP hD hS
      refine lv_aload_n (pc := 23) gX gB dS_changeLeftNumbers_23 rfl (lv_at hl 0 rfl) ?_
      refine va_get (pc := 24) (D := (dC, dI)) (ci := 4) (v := .ref (sA 1)) (C := RS) (T := TS) (N := 3) gX gB hw0 inS hown hK hP 0 rfl rfl 0 (by decide) (hw0 _ q118) (fun _ h9 => h9) rfl dS_changeLeftNumbers_24 ?_
      refine lv_iload_n (pc := 27) gX gB dS_changeLeftNumbers_27 rfl (lv_at hl 3 rfl) ?_
      refine jv_iald (pc := 28) gX gB hK hP 1 0 rfl rfl (by decide) (by omega) dS_changeLeftNumbers_28 ?_
      refine lv_iconst (pc := 29) (v := iv 1) gX gB dS_changeLeftNumbers_29 rfl ?_
      refine jv_icmp_ne (pc := 30) (tgt := 43) gX gB dS_changeLeftNumbers_30 (by decide) (by omega) (by decide) (fun h5 => ?_) (fun h5 => ?_)
      · skip
        exact cut43  _ _ _ (by exact ⟨by omega, by omega⟩) hl hP hD hS
      exact cut33  _ _ _ (by exact Or.inr (by omega)) hl hP hD hS
  exact cut9 (((n + 1 - 1 : Int).toNat) + 1) (kd 0) 1 kd _ _ _ (by omega) (by rfl) (by exact hk0) (by exact stg_0 hB7.2.1) (by exact hB.2.2) (Nat.lt_succ_self _) (lv_sub hl [2, 3, 1, 0] rfl) hP hD hS
