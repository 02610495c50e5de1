def hovv (x y z : Int) : Int := if x = 4 ∨ y = 4 ∨ y = 6 ∨ y = 12 ∨ (z = 5 ∨ (z = 7 ∧ y = 5)) then 1 else 0
def hsbv (x y : Int) : Int := if x = 7 ∨ y = 7 ∨ y = 8 then 1 else if y = 0 ∨ y = 9 then (if (x = 0 ∨ x = 9) ∨ x = 6 ∨ x = 12 ∨ (x = 8 ∧ y = 9) then 1 else 0) else (if (x = 0 ∨ x = 9) ∧ y = 5 then 1 else 0)
def ebf (x y z m : Int) : Int := if x = 1 then 2 else if 0 < y ∧ y < 4 then 0 else if z = 3 then 1 else if (m = 1 ∧ x = y) ∨ hovv x y z = 1 then 0 else if x = 2 ∨ hsbv x y = 0 then 1 else 0
theorem lkf_congr {lz lz2 tx : Int → Int} : ∀ n : Nat, (∀ j : Int, 0 ≤ j → j < (n : Int) + 1 → lz (tx j) = lz2 (tx j)) → lkf lz tx n = lkf lz2 tx n := by
  intro n
  induction n with
  | zero =>
    intro h
    show (if lz (tx 0) ≠ 11 then lz (tx 0) else 0) = (if lz2 (tx 0) ≠ 11 then lz2 (tx 0) else 0)
    rw [h 0 (by omega) (by omega)]
  | succ n ih =>
    intro h
    show (if lz (tx ((n : Int) + 1)) ≠ 11 then lz (tx ((n : Int) + 1)) else if lkf lz tx n = 0 ∨ 3 < lkf lz tx n then lkf lz tx n else 0) = (if lz2 (tx ((n : Int) + 1)) ≠ 11 then lz2 (tx ((n : Int) + 1)) else if lkf lz2 tx n = 0 ∨ 3 < lkf lz2 tx n then lkf lz2 tx n else 0)
    rw [h ((n : Int) + 1) (by omega) (by omega), ih (fun j a b => h j a (by omega))]
set_option maxRecDepth 100000 in
set_option maxHeartbeats 1000000 in
theorem c_L_isGap (l : Launch) (dC : Nat → ClassId) (dI : Nat → Nat → Nat) (cI : ClassId) (cZ : ClassId) (cG : ClassId) (cR : ClassId)  (sz : Nat) (k : Int) (hk : -1 ≤ k ∧ k ≤ 12) : Met l yL_isGap wsL_isGap ({ frames := 0, cells := 0, slots := 0, locals := 0 }) (va_Pc [.int (iv k)] (jPre (dC, dI) (jT cI cZ cG cR) (wE cI cZ cG cR) sz)) (va_Qi (fun (r0 : Int32) (u : Int) => r0 = iv u ∧ ((u = 0 ∨ u = 1) ∧ (u = 1 ↔ (0 < k ∧ k < 4)))) (fun u => jEnd (dC, dI) (jT cI cZ cG cR) (va_A (wE cI cZ cG cR) sz) (wE cI cZ cG cR)) (va_A (wE cI cZ cG cR) sz)) 0 0 (va_A (wE cI cZ cG cR) sz) := by
  refine jv_mz (cc := cL_isGap) (maxL := 1) (by decide) rfl (Nat.le_of_ble_eq_true rfl) ?_
  intro p0 e0 s0 m0 a0 b0 t0 c0 R0 Q0 A0 ls gX gB hts hown hml hRf hRl hA hK hret hl hP hD hS
  have hown : s0.vm.findClass "TextPipeline$Lines" = some m0.cls := hown
  have hw0 : ∀ w ∈ WS0, w.before a0 s0 = true := fun w h => hts w (List.mem_cons_of_mem _ h)
  have hl : lv_has ls 1 [(0, .int (iv k))] := hl
  have hRf : 0 ≤ R0.frames := hRf
  have hRl : 0 ≤ R0.locals := hRl
  refine lv_iload_n (pc := 0) gX gB dL_isGap_0 rfl (lv_at hl 0 rfl) ?_
  refine lv_iconst (pc := 1) (v := iv 1) gX gB dL_isGap_1 rfl ?_
  refine jv_icmp_eq (pc := 2) (tgt := 15) gX gB dL_isGap_2 (by decide) (by omega) (by decide) (fun h1 => ?_) (fun h1 => ?_)
  · skip
    refine lv_iconst (pc := 15) (v := iv 1) gX gB dL_isGap_15 rfl ?_
    refine lv_goto (pc := 16) (tgt := 20) gX gB dL_isGap_16 (by decide) ?_
    exact hret _ (1) dL_isGap_20 (Or.inr rfl) ⟨rfl, by omega⟩ hP hD hS
  refine lv_iload_n (pc := 5) gX gB dL_isGap_5 rfl (lv_at hl 0 rfl) ?_
  refine lv_iconst (pc := 6) (v := iv 2) gX gB dL_isGap_6 rfl ?_
  refine jv_icmp_eq (pc := 7) (tgt := 15) gX gB dL_isGap_7 (by decide) (by omega) (by decide) (fun h2 => ?_) (fun h2 => ?_)
  · skip
    refine lv_iconst (pc := 15) (v := iv 1) gX gB dL_isGap_15 rfl ?_
    refine lv_goto (pc := 16) (tgt := 20) gX gB dL_isGap_16 (by decide) ?_
    exact hret _ (1) dL_isGap_20 (Or.inr rfl) ⟨rfl, by omega⟩ hP hD hS
  refine lv_iload_n (pc := 10) gX gB dL_isGap_10 rfl (lv_at hl 0 rfl) ?_
  refine lv_iconst (pc := 11) (v := iv 3) gX gB dL_isGap_11 rfl ?_
  refine jv_icmp_ne (pc := 12) (tgt := 19) gX gB dL_isGap_12 (by decide) (by omega) (by decide) (fun h3 => ?_) (fun h3 => ?_)
  · skip
    refine lv_iconst (pc := 19) (v := iv 0) gX gB dL_isGap_19 rfl ?_
    exact hret _ (0) dL_isGap_20 (Or.inl rfl) ⟨rfl, by omega⟩ hP hD hS
  refine lv_iconst (pc := 15) (v := iv 1) gX gB dL_isGap_15 rfl ?_
  refine lv_goto (pc := 16) (tgt := 20) gX gB dL_isGap_16 (by decide) ?_
  exact hret _ (1) dL_isGap_20 (Or.inr rfl) ⟨rfl, by omega⟩ hP hD hS
set_option maxRecDepth 100000 in
set_option maxHeartbeats 1000000 in
theorem c_L_isWord (l : Launch) (dC : Nat → ClassId) (dI : Nat → Nat → Nat) (cI : ClassId) (cZ : ClassId) (cG : ClassId) (cR : ClassId)  (sz : Nat) (k : Int) (hk : 0 ≤ k ∧ k ≤ 12) : Met l yL_isWord wsL_isWord ({ frames := 0, cells := 0, slots := 0, locals := 0 }) (va_Pc [.int (iv k)] (jPre (dC, dI) (jT cI cZ cG cR) (wE cI cZ cG cR) sz)) (va_Qi (fun (r0 : Int32) (u : Int) => r0 = iv u ∧ ((u = 0 ∨ u = 1) ∧ (u = 1 ↔ (k = 0 ∨ k = 9)))) (fun u => jEnd (dC, dI) (jT cI cZ cG cR) (va_A (wE cI cZ cG cR) sz) (wE cI cZ cG cR)) (va_A (wE cI cZ cG cR) sz)) 0 0 (va_A (wE cI cZ cG cR) sz) := by
  refine jv_mz (cc := cL_isWord) (maxL := 1) (by decide) rfl (Nat.le_of_ble_eq_true rfl) ?_
  intro p0 e0 s0 m0 a0 b0 t0 c0 R0 Q0 A0 ls gX gB hts hown hml hRf hRl hA hK hret hl hP hD hS
  have hown : s0.vm.findClass "TextPipeline$Lines" = some m0.cls := hown
  have hw0 : ∀ w ∈ WS0, w.before a0 s0 = true := fun w h => hts w (List.mem_cons_of_mem _ h)
  have hl : lv_has ls 1 [(0, .int (iv k))] := hl
  have hRf : 0 ≤ R0.frames := hRf
  have hRl : 0 ≤ R0.locals := hRl
  refine lv_iload_n (pc := 0) gX gB dL_isWord_0 rfl (lv_at hl 0 rfl) ?_
  refine jv_if_eq (pc := 1) (tgt := 10) gX gB dL_isWord_1 (by decide) (by omega) (fun h1 => ?_) (fun h1 => ?_)
  · skip
    refine lv_iconst (pc := 10) (v := iv 1) gX gB dL_isWord_10 rfl ?_
    refine lv_goto (pc := 11) (tgt := 15) gX gB dL_isWord_11 (by decide) ?_
    exact hret _ (1) dL_isWord_15 (Or.inr rfl) ⟨rfl, by omega⟩ hP hD hS
  refine lv_iload_n (pc := 4) gX gB dL_isWord_4 rfl (lv_at hl 0 rfl) ?_
  refine lv_bipush (pc := 5) (v := iv 9) gX gB dL_isWord_5 (by decide) ?_
  refine jv_icmp_ne (pc := 7) (tgt := 14) gX gB dL_isWord_7 (by decide) (by omega) (by decide) (fun h2 => ?_) (fun h2 => ?_)
  · skip
    refine lv_iconst (pc := 14) (v := iv 0) gX gB dL_isWord_14 rfl ?_
    exact hret _ (0) dL_isWord_15 (Or.inl rfl) ⟨rfl, by omega⟩ hP hD hS
  refine lv_iconst (pc := 10) (v := iv 1) gX gB dL_isWord_10 rfl ?_
  refine lv_goto (pc := 11) (tgt := 15) gX gB dL_isWord_11 (by decide) ?_
  exact hret _ (1) dL_isWord_15 (Or.inr rfl) ⟨rfl, by omega⟩ hP hD hS
set_option maxRecDepth 100000 in
set_option maxHeartbeats 1000000 in
theorem c_L_holdsOverSpaces (l : Launch) (dC : Nat → ClassId) (dI : Nat → Nat → Nat) (cI : ClassId) (cZ : ClassId) (cG : ClassId) (cR : ClassId)  (sz : Nat) (x : Int) (y : Int) (z : Int) (hx9 : 0 ≤ x ∧ x ≤ 12) (hy9 : 0 ≤ y ∧ y ≤ 12) (hz9 : -1 ≤ z ∧ z ≤ 12) : Met l yL_holdsOverSpaces wsL_holdsOverSpaces ({ frames := 0, cells := 0, slots := 0, locals := 0 }) (va_Pc [.int (iv x), .int (iv y), .int (iv z)] (jPre (dC, dI) (jT cI cZ cG cR) (wE cI cZ cG cR) sz)) (va_Qi (fun (r0 : Int32) (u : Int) => r0 = iv u ∧ ((u = 0 ∨ u = 1) ∧ u = hovv x y z)) (fun u => jEnd (dC, dI) (jT cI cZ cG cR) (va_A (wE cI cZ cG cR) sz) (wE cI cZ cG cR)) (va_A (wE cI cZ cG cR) sz)) 0 0 (va_A (wE cI cZ cG cR) sz) := by
  refine jv_mz (cc := cL_holdsOverSpaces) (maxL := 3) (by decide) rfl (Nat.le_of_ble_eq_true rfl) ?_
  intro p0 e0 s0 m0 a0 b0 t0 c0 R0 Q0 A0 ls gX gB hts hown hml hRf hRl hA hK hret hl hP hD hS
  have hown : s0.vm.findClass "TextPipeline$Lines" = some m0.cls := hown
  have hw0 : ∀ w ∈ WS0, w.before a0 s0 = true := fun w h => hts w (List.mem_cons_of_mem _ h)
  have hl : lv_has ls 3 [(0, .int (iv x)), (1, .int (iv y)), (2, .int (iv z))] := hl
  have hRf : 0 ≤ R0.frames := hRf
  have hRl : 0 ≤ R0.locals := hRl
  have rgx : -2147483648 ≤ x ∧ x < 2147483648 := by omega
  have rgy : -2147483648 ≤ y ∧ y < 2147483648 := by omega
  have rgz : -2147483648 ≤ z ∧ z < 2147483648 := by omega
  have cut22 : ∀ (ls : Array Slot) (H : Heap) (locs : List Loc), (x = 4 ∨ y = 4 ∨ y = 6 ∨ y = 12) → lv_has ls 3 [(0, .int (iv x)), (1, .int (iv y)), (2, .int (iv z))] → va_P (dC, dI) vwCl (wE cI cZ cG cR) H → va_D A0 (wE cI cZ cG cR) → va_S A0 s0.heap H locs → W p0 l e0 R0 s0 m0 a0 b0 t0 c0 H locs 0 0 Q0 (F0 m0 22 ls []) := by
    intro  ls H locs h22 hl hP hD hS
    refine lv_iconst (pc := 22) (v := iv 1) gX gB dL_holdsOverSpaces_22 rfl ?_
    exact hret _ (1) dL_holdsOverSpaces_23 (Or.inr rfl) ⟨rfl, by refine ⟨Or.inr rfl, ?_⟩; unfold hovv; rw [if_pos (h22.elim Or.inl (fun q => Or.inr (q.elim Or.inl (fun q => Or.inr (q.elim Or.inl (fun q => Or.inr (Or.inl q)))))))]⟩ hP hD hS
  refine lv_iload_n (pc := 0) gX gB dL_holdsOverSpaces_0 rfl (lv_at hl 0 rfl) ?_
  refine lv_iconst (pc := 1) (v := iv 4) gX gB dL_holdsOverSpaces_1 rfl ?_
  refine jv_icmp_eq (pc := 2) (tgt := 22) gX gB dL_holdsOverSpaces_2 (by decide) rgx (by decide) (fun h1 => ?_) (fun h1 => ?_)
  · skip
    exact cut22  _ _ _ (by exact Or.inl (by assumption)) hl hP hD hS
  refine lv_iload_n (pc := 5) gX gB dL_holdsOverSpaces_5 rfl (lv_at hl 1 rfl) ?_
  refine lv_iconst (pc := 6) (v := iv 4) gX gB dL_holdsOverSpaces_6 rfl ?_
  refine jv_icmp_eq (pc := 7) (tgt := 22) gX gB dL_holdsOverSpaces_7 (by decide) rgy (by decide) (fun h2 => ?_) (fun h2 => ?_)
  · skip
    exact cut22  _ _ _ (by exact Or.inr (Or.inl (by assumption))) hl hP hD hS
  refine lv_iload_n (pc := 10) gX gB dL_holdsOverSpaces_10 rfl (lv_at hl 1 rfl) ?_
  refine lv_bipush (pc := 11) (v := iv 6) gX gB dL_holdsOverSpaces_11 (by decide) ?_
  refine jv_icmp_eq (pc := 13) (tgt := 22) gX gB dL_holdsOverSpaces_13 (by decide) rgy (by decide) (fun h3 => ?_) (fun h3 => ?_)
  · skip
    exact cut22  _ _ _ (by exact Or.inr (Or.inr (Or.inl (by assumption)))) hl hP hD hS
  refine lv_iload_n (pc := 16) gX gB dL_holdsOverSpaces_16 rfl (lv_at hl 1 rfl) ?_
  refine lv_bipush (pc := 17) (v := iv 12) gX gB dL_holdsOverSpaces_17 (by decide) ?_
  refine jv_icmp_ne (pc := 19) (tgt := 24) gX gB dL_holdsOverSpaces_19 (by decide) rgy (by decide) (fun h4 => ?_) (fun h4 => ?_)
  · skip
    have h24 : ¬ (x = 4 ∨ y = 4 ∨ y = 6 ∨ y = 12) := fun q => by rcases q with q | q | q | q <;> exact absurd q (by assumption)
    have cut44 : ∀ (ls : Array Slot) (H : Heap) (locs : List Loc), (¬ (z = 5 ∨ (z = 7 ∧ y = 5))) → lv_has ls 3 [(0, .int (iv x)), (1, .int (iv y)), (2, .int (iv z))] → va_P (dC, dI) vwCl (wE cI cZ cG cR) H → va_D A0 (wE cI cZ cG cR) → va_S A0 s0.heap H locs → W p0 l e0 R0 s0 m0 a0 b0 t0 c0 H locs 0 0 Q0 (F0 m0 44 ls []) := by
      intro  ls H locs h44 hl hP hD hS
      refine lv_iconst (pc := 44) (v := iv 0) gX gB dL_holdsOverSpaces_44 rfl ?_
      exact hret _ (0) dL_holdsOverSpaces_45 (Or.inl rfl) ⟨rfl, by first | (refine ⟨Or.inr rfl, ?_⟩; unfold hovv; rw [if_pos (Or.inr (Or.inr (Or.inr (Or.inr h40))))]) | (refine ⟨Or.inl rfl, ?_⟩; unfold hovv; rw [if_neg (fun q => by rcases q with q | q | q | q | q; (exact h24 (Or.inl q)); (exact h24 (Or.inr (Or.inl q))); (exact h24 (Or.inr (Or.inr (Or.inl q)))); (exact h24 (Or.inr (Or.inr (Or.inr q)))); (exact h44 q))])⟩ hP hD hS
    have cut40 : ∀ (ls : Array Slot) (H : Heap) (locs : List Loc), (z = 5 ∨ (z = 7 ∧ y = 5)) → lv_has ls 3 [(0, .int (iv x)), (1, .int (iv y)), (2, .int (iv z))] → va_P (dC, dI) vwCl (wE cI cZ cG cR) H → va_D A0 (wE cI cZ cG cR) → va_S A0 s0.heap H locs → W p0 l e0 R0 s0 m0 a0 b0 t0 c0 H locs 0 0 Q0 (F0 m0 40 ls []) := by
      intro  ls H locs h40 hl hP hD hS
      refine lv_iconst (pc := 40) (v := iv 1) gX gB dL_holdsOverSpaces_40 rfl ?_
      refine lv_goto (pc := 41) (tgt := 45) gX gB dL_holdsOverSpaces_41 (by decide) ?_
      exact hret _ (1) dL_holdsOverSpaces_45 (Or.inr rfl) ⟨rfl, by first | (refine ⟨Or.inr rfl, ?_⟩; unfold hovv; rw [if_pos (Or.inr (Or.inr (Or.inr (Or.inr h40))))]) | (refine ⟨Or.inl rfl, ?_⟩; unfold hovv; rw [if_neg (fun q => by rcases q with q | q | q | q | q; (exact h24 (Or.inl q)); (exact h24 (Or.inr (Or.inl q))); (exact h24 (Or.inr (Or.inr (Or.inl q)))); (exact h24 (Or.inr (Or.inr (Or.inr q)))); (exact h44 q))])⟩ hP hD hS
    refine lv_iload_n (pc := 24) gX gB dL_holdsOverSpaces_24 rfl (lv_at hl 2 rfl) ?_
    refine lv_iconst (pc := 25) (v := iv 5) gX gB dL_holdsOverSpaces_25 rfl ?_
    refine jv_icmp_eq (pc := 26) (tgt := 40) gX gB dL_holdsOverSpaces_26 (by decide) rgz (by decide) (fun h5 => ?_) (fun h5 => ?_)
    · skip
      exact cut40  _ _ _ (by exact Or.inl (by assumption)) hl hP hD hS
    refine lv_iload_n (pc := 29) gX gB dL_holdsOverSpaces_29 rfl (lv_at hl 2 rfl) ?_
    refine lv_bipush (pc := 30) (v := iv 7) gX gB dL_holdsOverSpaces_30 (by decide) ?_
    refine jv_icmp_ne (pc := 32) (tgt := 44) gX gB dL_holdsOverSpaces_32 (by decide) rgz (by decide) (fun h6 => ?_) (fun h6 => ?_)
    · skip
      exact cut44  _ _ _ (by exact fun q => by rcases q with q | q; exact absurd q (by assumption); exact absurd q.1 (by assumption)) hl hP hD hS
    refine lv_iload_n (pc := 35) gX gB dL_holdsOverSpaces_35 rfl (lv_at hl 1 rfl) ?_
    refine lv_iconst (pc := 36) (v := iv 5) gX gB dL_holdsOverSpaces_36 rfl ?_
    refine jv_icmp_ne (pc := 37) (tgt := 44) gX gB dL_holdsOverSpaces_37 (by decide) rgy (by decide) (fun h7 => ?_) (fun h7 => ?_)
    · skip
      exact cut44  _ _ _ (by exact fun q => by rcases q with q | q; exact absurd q (by assumption); exact absurd q.2 (by assumption)) hl hP hD hS
    exact cut40  _ _ _ (by exact Or.inr ⟨by assumption, by assumption⟩) hl hP hD hS
  exact cut22  _ _ _ (by exact Or.inr (Or.inr (Or.inr (by assumption)))) hl hP hD hS
set_option maxRecDepth 100000 in
set_option maxHeartbeats 1000000 in
theorem c_L_holdsSideBySide (l : Launch) (dC : Nat → ClassId) (dI : Nat → Nat → Nat) (cI : ClassId) (cZ : ClassId) (cG : ClassId) (cR : ClassId)  (sz : Nat) (x : Int) (y : Int) (hx9 : 0 ≤ x ∧ x ≤ 12) (hy9 : 0 ≤ y ∧ y ≤ 12) : Met l yL_holdsSideBySide wsL_holdsSideBySide ({ frames := 1, cells := 0, slots := 0, locals := 20 }) (va_Pc [.int (iv x), .int (iv y)] (jPre (dC, dI) (jT cI cZ cG cR) (wE cI cZ cG cR) sz)) (va_Qi (fun (r0 : Int32) (u : Int) => r0 = iv u ∧ ((u = 0 ∨ u = 1) ∧ u = hsbv x y)) (fun u => jEnd (dC, dI) (jT cI cZ cG cR) (va_A (wE cI cZ cG cR) sz) (wE cI cZ cG cR)) (va_A (wE cI cZ cG cR) sz)) 0 0 (va_A (wE cI cZ cG cR) sz) := by
  refine jv_mz (cc := cL_holdsSideBySide) (maxL := 2) (by decide) rfl (Nat.le_of_ble_eq_true rfl) ?_
  intro p0 e0 s0 m0 a0 b0 t0 c0 R0 Q0 A0 ls gX gB hts hown hml hRf hRl hA hK hret hl hP hD hS
  have hown : s0.vm.findClass "TextPipeline$Lines" = some m0.cls := hown
  have hw0 : ∀ w ∈ WS0, w.before a0 s0 = true := fun w h => hts w (List.mem_cons_of_mem _ h)
  have hl : lv_has ls 2 [(0, .int (iv x)), (1, .int (iv y))] := hl
  have hRf : 1 ≤ R0.frames := hRf
  have hRl : 20 ≤ R0.locals := hRl
  have rgx : -2147483648 ≤ x ∧ x < 2147483648 := by omega
  have rgy : -2147483648 ≤ y ∧ y < 2147483648 := by omega
  have cut18 : ∀ (ls : Array Slot) (H : Heap) (locs : List Loc), (x = 7 ∨ y = 7 ∨ y = 8) → lv_has ls 2 [(0, .int (iv x)), (1, .int (iv y))] → va_P (dC, dI) vwCl (wE cI cZ cG cR) H → va_D A0 (wE cI cZ cG cR) → va_S A0 s0.heap H locs → W p0 l e0 R0 s0 m0 a0 b0 t0 c0 H locs 0 0 Q0 (F0 m0 18 ls []) := by
    intro  ls H locs h18 hl hP hD hS
    refine lv_iconst (pc := 18) (v := iv 1) gX gB dL_holdsSideBySide_18 rfl ?_
    exact hret _ (1) dL_holdsSideBySide_19 (Or.inr rfl) ⟨rfl, by refine ⟨Or.inr rfl, ?_⟩; unfold hsbv; rw [if_pos h18]⟩ hP hD hS
  refine lv_iload_n (pc := 0) gX gB dL_holdsSideBySide_0 rfl (lv_at hl 0 rfl) ?_
  refine lv_bipush (pc := 1) (v := iv 7) gX gB dL_holdsSideBySide_1 (by decide) ?_
  refine jv_icmp_eq (pc := 3) (tgt := 18) gX gB dL_holdsSideBySide_3 (by decide) rgx (by decide) (fun h1 => ?_) (fun h1 => ?_)
  · skip
    exact cut18  _ _ _ (by exact Or.inl (by assumption)) hl hP hD hS
  refine lv_iload_n (pc := 6) gX gB dL_holdsSideBySide_6 rfl (lv_at hl 1 rfl) ?_
  refine lv_bipush (pc := 7) (v := iv 7) gX gB dL_holdsSideBySide_7 (by decide) ?_
  refine jv_icmp_eq (pc := 9) (tgt := 18) gX gB dL_holdsSideBySide_9 (by decide) rgy (by decide) (fun h2 => ?_) (fun h2 => ?_)
  · skip
    exact cut18  _ _ _ (by exact Or.inr (Or.inl (by assumption))) hl hP hD hS
  refine lv_iload_n (pc := 12) gX gB dL_holdsSideBySide_12 rfl (lv_at hl 1 rfl) ?_
  refine lv_bipush (pc := 13) (v := iv 8) gX gB dL_holdsSideBySide_13 (by decide) ?_
  refine jv_icmp_ne (pc := 15) (tgt := 20) gX gB dL_holdsSideBySide_15 (by decide) rgy (by decide) (fun h3 => ?_) (fun h3 => ?_)
  · skip
    have h20 : ¬ (x = 7 ∨ y = 7 ∨ y = 8) := fun q => by rcases q with q | q | q <;> exact absurd q (by assumption)
    refine lv_iload_n (pc := 20) gX gB dL_holdsSideBySide_20 rfl (lv_at hl 1 rfl) ?_
    refine jv_ri (pc := 21) (wr := []) (wn := fun u : Int => (wE cI cZ cG cR)) (va_runS (rest := []) ⟨gX, gB, hml, hown, hw0⟩ (c_L_isWord l dC dI cI cZ cG cR  _ y (by omega)) (jcS hw0 kL_isWord q503 rfl rfl ⟨Nat.le_trans (Nat.le_of_ble_eq_true rfl) hRf, Nat.le_trans (Nat.le_of_ble_eq_true rfl) hRl⟩) (jv_preS hK hP hD [] rfl (by decide)) rfl rfl hl.1 rfl (lv_room (Nat.le_of_ble_eq_true rfl)) dL_holdsSideBySide_21 ⟨Nat.zero_le _, Nat.zero_le _⟩) hP hD hS hA [] [] [] rfl rfl (by decide) (by decide) (by decide) (fun _ => rfl) (fun r0 u H locs hw21 hP hD hS => ?_)
    obtain ⟨r_21, hu⟩ : ∃ z, z = u := ⟨_, rfl⟩; subst hu
    obtain ⟨rfl, hw21⟩ := hw21
    refine jv_if_eq (pc := 24) (tgt := 64) gX gB dL_holdsSideBySide_24 (by decide) (by omega) (fun h4 => ?_) (fun h4 => ?_)
    · skip
      have hyn : ¬ (y = 0 ∨ y = 9) := fun q => by have := hw21.2.mpr q; omega
      have cut80 : ∀ (ls : Array Slot) (H : Heap) (locs : List Loc), (¬ ((x = 0 ∨ x = 9) ∧ y = 5)) → lv_has ls 2 [(0, .int (iv x)), (1, .int (iv y))] → va_P (dC, dI) vwCl (wE cI cZ cG cR) H → va_D A0 (wE cI cZ cG cR) → va_S A0 s0.heap H locs → W p0 l e0 R0 s0 m0 a0 b0 t0 c0 H locs 0 0 Q0 (F0 m0 80 ls []) := by
        intro  ls H locs h80 hl hP hD hS
        refine lv_iconst (pc := 80) (v := iv 0) gX gB dL_holdsSideBySide_80 rfl ?_
        exact hret _ (0) dL_holdsSideBySide_81 (Or.inl rfl) ⟨rfl, by first | (refine ⟨Or.inl rfl, ?_⟩; unfold hsbv; rw [if_neg h20, if_neg hyn, if_neg h80]) | (refine ⟨Or.inr rfl, ?_⟩; unfold hsbv; rw [if_neg h20, if_neg hyn, if_pos ⟨hw65.2.mp (by omega), by assumption⟩])⟩ hP hD hS
      refine lv_iload_n (pc := 64) gX gB dL_holdsSideBySide_64 rfl (lv_at hl 0 rfl) ?_
      refine jv_ri (pc := 65) (wr := []) (wn := fun u : Int => (wE cI cZ cG cR)) (va_runS (rest := []) ⟨gX, gB, hml, hown, hw0⟩ (c_L_isWord l dC dI cI cZ cG cR  _ x (by omega)) (jcS hw0 kL_isWord q503 rfl rfl ⟨Nat.le_trans (Nat.le_of_ble_eq_true rfl) hRf, Nat.le_trans (Nat.le_of_ble_eq_true rfl) hRl⟩) (jv_preS hK hP hD [] rfl (by decide)) rfl rfl hl.1 rfl (lv_room (Nat.le_of_ble_eq_true rfl)) dL_holdsSideBySide_65 ⟨Nat.zero_le _, Nat.zero_le _⟩) hP hD hS hA [] [] [] rfl rfl (by decide) (by decide) (by decide) (fun _ => rfl) (fun r0 u H locs hw65 hP hD hS => ?_)
      obtain ⟨r_65, hu⟩ : ∃ z, z = u := ⟨_, rfl⟩; subst hu
      obtain ⟨rfl, hw65⟩ := hw65
      refine jv_if_eq (pc := 68) (tgt := 80) gX gB dL_holdsSideBySide_68 (by decide) (by omega) (fun h5 => ?_) (fun h5 => ?_)
      · skip
        exact cut80  _ _ _ (by exact fun q => by have := hw65.2.mpr q.1; omega) hl hP hD hS
      refine lv_iload_n (pc := 71) gX gB dL_holdsSideBySide_71 rfl (lv_at hl 1 rfl) ?_
      refine lv_iconst (pc := 72) (v := iv 5) gX gB dL_holdsSideBySide_72 rfl ?_
      refine jv_icmp_ne (pc := 73) (tgt := 80) gX gB dL_holdsSideBySide_73 (by decide) rgy (by decide) (fun h6 => ?_) (fun h6 => ?_)
      · skip
        exact cut80  _ _ _ (by exact fun q => absurd q.2 (by assumption)) hl hP hD hS
      refine lv_iconst (pc := 76) (v := iv 1) gX gB dL_holdsSideBySide_76 rfl ?_
      refine lv_goto (pc := 77) (tgt := 81) gX gB dL_holdsSideBySide_77 (by decide) ?_
      exact hret _ (1) dL_holdsSideBySide_81 (Or.inr rfl) ⟨rfl, by first | (refine ⟨Or.inl rfl, ?_⟩; unfold hsbv; rw [if_neg h20, if_neg hyn, if_neg h80]) | (refine ⟨Or.inr rfl, ?_⟩; unfold hsbv; rw [if_neg h20, if_neg hyn, if_pos ⟨hw65.2.mp (by omega), by assumption⟩])⟩ hP hD hS
    have hyw : y = 0 ∨ y = 9 := hw21.2.mp (by omega)
    have cut62 : ∀ (ls : Array Slot) (H : Heap) (locs : List Loc), (¬ ((x = 0 ∨ x = 9) ∨ x = 6 ∨ x = 12 ∨ (x = 8 ∧ y = 9))) → lv_has ls 2 [(0, .int (iv x)), (1, .int (iv y))] → va_P (dC, dI) vwCl (wE cI cZ cG cR) H → va_D A0 (wE cI cZ cG cR) → va_S A0 s0.heap H locs → W p0 l e0 R0 s0 m0 a0 b0 t0 c0 H locs 0 0 Q0 (F0 m0 62 ls []) := by
      intro  ls H locs h62 hl hP hD hS
      refine lv_iconst (pc := 62) (v := iv 0) gX gB dL_holdsSideBySide_62 rfl ?_
      exact hret _ (0) dL_holdsSideBySide_63 (Or.inl rfl) ⟨rfl, by first | (refine ⟨Or.inr rfl, ?_⟩; unfold hsbv; rw [if_neg h20, if_pos hyw, if_pos h58]) | (refine ⟨Or.inl rfl, ?_⟩; unfold hsbv; rw [if_neg h20, if_pos hyw, if_neg h62])⟩ hP hD hS
    have cut58 : ∀ (ls : Array Slot) (H : Heap) (locs : List Loc), ((x = 0 ∨ x = 9) ∨ x = 6 ∨ x = 12 ∨ (x = 8 ∧ y = 9)) → lv_has ls 2 [(0, .int (iv x)), (1, .int (iv y))] → va_P (dC, dI) vwCl (wE cI cZ cG cR) H → va_D A0 (wE cI cZ cG cR) → va_S A0 s0.heap H locs → W p0 l e0 R0 s0 m0 a0 b0 t0 c0 H locs 0 0 Q0 (F0 m0 58 ls []) := by
      intro  ls H locs h58 hl hP hD hS
      refine lv_iconst (pc := 58) (v := iv 1) gX gB dL_holdsSideBySide_58 rfl ?_
      refine lv_goto (pc := 59) (tgt := 63) gX gB dL_holdsSideBySide_59 (by decide) ?_
      exact hret _ (1) dL_holdsSideBySide_63 (Or.inr rfl) ⟨rfl, by first | (refine ⟨Or.inr rfl, ?_⟩; unfold hsbv; rw [if_neg h20, if_pos hyw, if_pos h58]) | (refine ⟨Or.inl rfl, ?_⟩; unfold hsbv; rw [if_neg h20, if_pos hyw, if_neg h62])⟩ hP hD hS
    refine lv_iload_n (pc := 27) gX gB dL_holdsSideBySide_27 rfl (lv_at hl 0 rfl) ?_
    refine jv_ri (pc := 28) (wr := []) (wn := fun u : Int => (wE cI cZ cG cR)) (va_runS (rest := []) ⟨gX, gB, hml, hown, hw0⟩ (c_L_isWord l dC dI cI cZ cG cR  _ x (by omega)) (jcS hw0 kL_isWord q503 rfl rfl ⟨Nat.le_trans (Nat.le_of_ble_eq_true rfl) hRf, Nat.le_trans (Nat.le_of_ble_eq_true rfl) hRl⟩) (jv_preS hK hP hD [] rfl (by decide)) rfl rfl hl.1 rfl (lv_room (Nat.le_of_ble_eq_true rfl)) dL_holdsSideBySide_28 ⟨Nat.zero_le _, Nat.zero_le _⟩) hP hD hS hA [] [] [] rfl rfl (by decide) (by decide) (by decide) (fun _ => rfl) (fun r0 u H locs hw28 hP hD hS => ?_)
    obtain ⟨r_28, hu⟩ : ∃ z, z = u := ⟨_, rfl⟩; subst hu
    obtain ⟨rfl, hw28⟩ := hw28
    refine jv_if_ne (pc := 31) (tgt := 58) gX gB dL_holdsSideBySide_31 (by decide) (by omega) (fun h7 => ?_) (fun h7 => ?_)
    · skip
      exact cut58  _ _ _ (by exact Or.inl (hw28.2.mp (by omega))) hl hP hD hS
    have hxw : ¬ (x = 0 ∨ x = 9) := fun q => by have := hw28.2.mpr q; omega
    refine lv_iload_n (pc := 34) gX gB dL_holdsSideBySide_34 rfl (lv_at hl 0 rfl) ?_
    refine lv_bipush (pc := 35) (v := iv 6) gX gB dL_holdsSideBySide_35 (by decide) ?_
    refine jv_icmp_eq (pc := 37) (tgt := 58) gX gB dL_holdsSideBySide_37 (by decide) rgx (by decide) (fun h8 => ?_) (fun h8 => ?_)
    · skip
      exact cut58  _ _ _ (by exact Or.inr (Or.inl (by assumption))) hl hP hD hS
    refine lv_iload_n (pc := 40) gX gB dL_holdsSideBySide_40 rfl (lv_at hl 0 rfl) ?_
    refine lv_bipush (pc := 41) (v := iv 12) gX gB dL_holdsSideBySide_41 (by decide) ?_
    refine jv_icmp_eq (pc := 43) (tgt := 58) gX gB dL_holdsSideBySide_43 (by decide) rgx (by decide) (fun h9 => ?_) (fun h9 => ?_)
    · skip
      exact cut58  _ _ _ (by exact Or.inr (Or.inr (Or.inl (by assumption)))) hl hP hD hS
    refine lv_iload_n (pc := 46) gX gB dL_holdsSideBySide_46 rfl (lv_at hl 0 rfl) ?_
    refine lv_bipush (pc := 47) (v := iv 8) gX gB dL_holdsSideBySide_47 (by decide) ?_
    refine jv_icmp_ne (pc := 49) (tgt := 62) gX gB dL_holdsSideBySide_49 (by decide) rgx (by decide) (fun h10 => ?_) (fun h10 => ?_)
    · skip
      exact cut62  _ _ _ (by exact fun q => by rcases q with q | q | q | q; exact hxw q; exact absurd q (by assumption); exact absurd q (by assumption); exact absurd q.1 (by assumption)) hl hP hD hS
    refine lv_iload_n (pc := 52) gX gB dL_holdsSideBySide_52 rfl (lv_at hl 1 rfl) ?_
    refine lv_bipush (pc := 53) (v := iv 9) gX gB dL_holdsSideBySide_53 (by decide) ?_
    refine jv_icmp_ne (pc := 55) (tgt := 62) gX gB dL_holdsSideBySide_55 (by decide) rgy (by decide) (fun h11 => ?_) (fun h11 => ?_)
    · skip
      exact cut62  _ _ _ (by exact fun q => by rcases q with q | q | q | q; exact hxw q; exact absurd q (by assumption); exact absurd q (by assumption); exact absurd q.2 (by assumption)) hl hP hD hS
    exact cut58  _ _ _ (by exact Or.inr (Or.inr (Or.inr ⟨by assumption, by assumption⟩))) hl hP hD hS
  exact cut18  _ _ _ (by exact Or.inr (Or.inr (by assumption))) hl hP hD hS
set_option maxRecDepth 100000 in
set_option maxHeartbeats 1000000 in
theorem c_L_endBetween (l : Launch) (dC : Nat → ClassId) (dI : Nat → Nat → Nat) (cI : ClassId) (cZ : ClassId) (cG : ClassId) (cR : ClassId)  (sz : Nat) (x : Int) (y : Int) (z : Int) (mk : Int) (hx9 : 0 ≤ x ∧ x ≤ 12) (hy9 : 0 ≤ y ∧ y ≤ 12) (hz9 : -1 ≤ z ∧ z ≤ 12) (hm9 : mk = 0 ∨ mk = 1) : Met l yL_endBetween wsL_endBetween ({ frames := 2, cells := 0, slots := 0, locals := 41 }) (va_Pc [.int (iv x), .int (iv y), .int (iv z), .int (iv mk)] (jPre (dC, dI) (jT cI cZ cG cR) (wE cI cZ cG cR) sz)) (va_Qi (fun (r0 : Int32) (u : Int) => r0 = iv u ∧ (u = ebf x y z mk)) (fun u => jEnd (dC, dI) (jT cI cZ cG cR) (va_A (wE cI cZ cG cR) sz) (wE cI cZ cG cR)) (va_A (wE cI cZ cG cR) sz)) 0 0 (va_A (wE cI cZ cG cR) sz) := by
  refine jv_mi (cc := cL_endBetween) (maxL := 4) (by decide) rfl (Nat.le_of_ble_eq_true rfl) ?_
  intro p0 e0 s0 m0 a0 b0 t0 c0 R0 Q0 A0 ls gX gB hts hown hml hRf hRl hA hK hret hl hP hD hS
  have hown : s0.vm.findClass "TextPipeline$Lines" = some m0.cls := hown
  have hw0 : ∀ w ∈ WS0, w.before a0 s0 = true := fun w h => hts w (List.mem_cons_of_mem _ h)
  have hl : lv_has ls 4 [(0, .int (iv x)), (1, .int (iv y)), (2, .int (iv z)), (3, .int (iv mk))] := hl
  have hRf : 2 ≤ R0.frames := hRf
  have hRl : 41 ≤ R0.locals := hRl
  have rgx : -2147483648 ≤ x ∧ x < 2147483648 := by omega
  have rgy : -2147483648 ≤ y ∧ y < 2147483648 := by omega
  have rgz : -2147483648 ≤ z ∧ z < 2147483648 := by omega
  have rgm : -2147483648 ≤ mk ∧ mk < 2147483648 := by rcases hm9 with q | q <;> (rw [q]; decide)
  refine lv_iload_n (pc := 0) gX gB dL_endBetween_0 rfl (lv_at hl 0 rfl) ?_
  refine lv_iconst (pc := 1) (v := iv 1) gX gB dL_endBetween_1 rfl ?_
  refine jv_icmp_ne (pc := 2) (tgt := 7) gX gB dL_endBetween_2 (by decide) rgx (by decide) (fun h1 => ?_) (fun h1 => ?_)
  · skip
    refine lv_iload_n (pc := 7) gX gB dL_endBetween_7 rfl (lv_at hl 1 rfl) ?_
    refine jv_ri (pc := 8) (wr := []) (wn := fun u : Int => (wE cI cZ cG cR)) (va_runS (rest := []) ⟨gX, gB, hml, hown, hw0⟩ (c_L_isGap l dC dI cI cZ cG cR  _ y (by omega)) (jcS hw0 kL_isGap q487 rfl rfl ⟨Nat.le_trans (Nat.le_of_ble_eq_true rfl) hRf, Nat.le_trans (Nat.le_of_ble_eq_true rfl) hRl⟩) (jv_preS hK hP hD [] rfl (by decide)) rfl rfl hl.1 rfl (lv_room (Nat.le_of_ble_eq_true rfl)) dL_endBetween_8 ⟨Nat.zero_le _, Nat.zero_le _⟩) hP hD hS hA [] [] [] rfl rfl (by decide) (by decide) (by decide) (fun _ => rfl) (fun r0 u H locs hw8 hP hD hS => ?_)
    obtain ⟨r_8, hu⟩ : ∃ z, z = u := ⟨_, rfl⟩; subst hu
    obtain ⟨rfl, hw8⟩ := hw8
    refine jv_if_eq (pc := 11) (tgt := 16) gX gB dL_endBetween_11 (by decide) (by omega) (fun h2 => ?_) (fun h2 => ?_)
    · skip
      have h16 : ¬ (0 < y ∧ y < 4) := fun q => by have := hw8.2.mpr q; omega
      refine lv_iload_n (pc := 16) gX gB dL_endBetween_16 rfl (lv_at hl 2 rfl) ?_
      refine lv_iconst (pc := 17) (v := iv 3) gX gB dL_endBetween_17 rfl ?_
      refine jv_icmp_ne (pc := 18) (tgt := 23) gX gB dL_endBetween_18 (by decide) rgz (by decide) (fun h3 => ?_) (fun h3 => ?_)
      · skip
        have cut41 : ∀ (ls : Array Slot) (H : Heap) (locs : List Loc), ((mk = 1 ∧ x = y) ∨ hovv x y z = 1) → lv_has ls 4 [(0, .int (iv x)), (1, .int (iv y)), (2, .int (iv z)), (3, .int (iv mk))] → va_P (dC, dI) vwCl (wE cI cZ cG cR) H → va_D A0 (wE cI cZ cG cR) → va_S A0 s0.heap H locs → W p0 l e0 R0 s0 m0 a0 b0 t0 c0 H locs 0 0 Q0 (F0 m0 41 ls []) := by
          intro  ls H locs h41 hl hP hD hS
          refine lv_iconst (pc := 41) (v := iv 0) gX gB dL_endBetween_41 rfl ?_
          exact hret _ (0) dL_endBetween_42 ⟨rfl, by unfold ebf; rw [if_neg (by assumption), if_neg h16, if_neg (by assumption), if_pos h41]⟩ hP hD hS
        have cut32 : ∀ (ls : Array Slot) (H : Heap) (locs : List Loc), (¬ (mk = 1 ∧ x = y)) → lv_has ls 4 [(0, .int (iv x)), (1, .int (iv y)), (2, .int (iv z)), (3, .int (iv mk))] → va_P (dC, dI) vwCl (wE cI cZ cG cR) H → va_D A0 (wE cI cZ cG cR) → va_S A0 s0.heap H locs → W p0 l e0 R0 s0 m0 a0 b0 t0 c0 H locs 0 0 Q0 (F0 m0 32 ls []) := by
          intro  ls H locs h32 hl hP hD hS
          refine lv_iload_n (pc := 32) gX gB dL_endBetween_32 rfl (lv_at hl 0 rfl) ?_
          refine lv_iload_n (pc := 33) gX gB dL_endBetween_33 rfl (lv_at hl 1 rfl) ?_
          refine lv_iload_n (pc := 34) gX gB dL_endBetween_34 rfl (lv_at hl 2 rfl) ?_
          refine jv_ri (pc := 35) (wr := []) (wn := fun u : Int => (wE cI cZ cG cR)) (va_runS (rest := []) ⟨gX, gB, hml, hown, hw0⟩ (c_L_holdsOverSpaces l dC dI cI cZ cG cR  _ x y z (by omega) (by omega) (by omega)) (jcS hw0 kL_holdsOverSpaces q497 rfl rfl ⟨Nat.le_trans (Nat.le_of_ble_eq_true rfl) hRf, Nat.le_trans (Nat.le_of_ble_eq_true rfl) hRl⟩) (jv_preS hK hP hD [] rfl (by decide)) rfl rfl hl.1 rfl (lv_room (Nat.le_of_ble_eq_true rfl)) dL_endBetween_35 ⟨Nat.zero_le _, Nat.zero_le _⟩) hP hD hS hA [] [] [] rfl rfl (by decide) (by decide) (by decide) (fun _ => rfl) (fun r0 u H locs hw35 hP hD hS => ?_)
          obtain ⟨r_35, hu⟩ : ∃ z, z = u := ⟨_, rfl⟩; subst hu
          obtain ⟨rfl, hw35⟩ := hw35
          refine jv_if_eq (pc := 38) (tgt := 43) gX gB dL_endBetween_38 (by decide) (by omega) (fun h4 => ?_) (fun h4 => ?_)
          · skip
            have h43 : ¬ ((mk = 1 ∧ x = y) ∨ hovv x y z = 1) := fun q => by rcases q with q | q; exact h32 q; (have := hw35.2; omega)
            have cut56 : ∀ (ls : Array Slot) (H : Heap) (locs : List Loc), (x = 2 ∨ hsbv x y = 0) → lv_has ls 4 [(0, .int (iv x)), (1, .int (iv y)), (2, .int (iv z)), (3, .int (iv mk))] → va_P (dC, dI) vwCl (wE cI cZ cG cR) H → va_D A0 (wE cI cZ cG cR) → va_S A0 s0.heap H locs → W p0 l e0 R0 s0 m0 a0 b0 t0 c0 H locs 0 0 Q0 (F0 m0 56 ls []) := by
              intro  ls H locs h56 hl hP hD hS
              refine lv_iconst (pc := 56) (v := iv 1) gX gB dL_endBetween_56 rfl ?_
              refine lv_goto (pc := 57) (tgt := 61) gX gB dL_endBetween_57 (by decide) ?_
              exact hret _ (1) dL_endBetween_61 ⟨rfl, by first | (unfold ebf; rw [if_neg (by assumption), if_neg h16, if_neg (by assumption), if_neg h43, if_pos h56]) | (unfold ebf; rw [if_neg (by assumption), if_neg h16, if_neg (by assumption), if_neg h43, if_neg (fun q => by rcases q with q | q; exact absurd q (by assumption); (rw [← hw50.2] at q; exact absurd q (by assumption)))])⟩ hP hD hS
            refine lv_iload_n (pc := 43) gX gB dL_endBetween_43 rfl (lv_at hl 0 rfl) ?_
            refine lv_iconst (pc := 44) (v := iv 2) gX gB dL_endBetween_44 rfl ?_
            refine jv_icmp_eq (pc := 45) (tgt := 56) gX gB dL_endBetween_45 (by decide) rgx (by decide) (fun h5 => ?_) (fun h5 => ?_)
            · skip
              exact cut56  _ _ _ (by exact Or.inl (by assumption)) hl hP hD hS
            refine lv_iload_n (pc := 48) gX gB dL_endBetween_48 rfl (lv_at hl 0 rfl) ?_
            refine lv_iload_n (pc := 49) gX gB dL_endBetween_49 rfl (lv_at hl 1 rfl) ?_
            refine jv_ri (pc := 50) (wr := []) (wn := fun u : Int => (wE cI cZ cG cR)) (va_runS (rest := []) ⟨gX, gB, hml, hown, hw0⟩ (c_L_holdsSideBySide l dC dI cI cZ cG cR  _ x y (by omega) (by omega)) (jcS hw0 kL_holdsSideBySide q500 rfl rfl ⟨Nat.le_trans (Nat.le_of_ble_eq_true rfl) hRf, Nat.le_trans (Nat.le_of_ble_eq_true rfl) hRl⟩) (jv_preS hK hP hD [] rfl (by decide)) rfl rfl hl.1 rfl (lv_room (Nat.le_of_ble_eq_true rfl)) dL_endBetween_50 ⟨Nat.zero_le _, Nat.zero_le _⟩) hP hD hS hA [] [] [] rfl rfl (by decide) (by decide) (by decide) (fun _ => rfl) (fun r0 u H locs hw50 hP hD hS => ?_)
            obtain ⟨r_50, hu⟩ : ∃ z, z = u := ⟨_, rfl⟩; subst hu
            obtain ⟨rfl, hw50⟩ := hw50
            refine jv_if_ne (pc := 53) (tgt := 60) gX gB dL_endBetween_53 (by decide) (by omega) (fun h6 => ?_) (fun h6 => ?_)
            · skip
              refine lv_iconst (pc := 60) (v := iv 0) gX gB dL_endBetween_60 rfl ?_
              exact hret _ (0) dL_endBetween_61 ⟨rfl, by first | (unfold ebf; rw [if_neg (by assumption), if_neg h16, if_neg (by assumption), if_neg h43, if_pos h56]) | (unfold ebf; rw [if_neg (by assumption), if_neg h16, if_neg (by assumption), if_neg h43, if_neg (fun q => by rcases q with q | q; exact absurd q (by assumption); (rw [← hw50.2] at q; exact absurd q (by assumption)))])⟩ hP hD hS
            exact cut56  _ _ _ (by exact Or.inr (by rw [← hw50.2]; assumption)) hl hP hD hS
          exact cut41  _ _ _ (by exact Or.inr (by rw [← hw35.2]; exact hw35.1.resolve_left (by assumption))) hl hP hD hS
        refine lv_iload_n (pc := 23) gX gB dL_endBetween_23 rfl (lv_at hl 3 rfl) ?_
        refine jv_if_eq (pc := 24) (tgt := 32) gX gB dL_endBetween_24 (by decide) rgm (fun h7 => ?_) (fun h7 => ?_)
        · skip
          exact cut32  _ _ _ (by exact fun q => by omega) hl hP hD hS
        refine lv_iload_n (pc := 27) gX gB dL_endBetween_27 rfl (lv_at hl 0 rfl) ?_
        refine lv_iload_n (pc := 28) gX gB dL_endBetween_28 rfl (lv_at hl 1 rfl) ?_
        refine jv_icmp_eq (pc := 29) (tgt := 41) gX gB dL_endBetween_29 (by decide) rgx rgy (fun h8 => ?_) (fun h8 => ?_)
        · skip
          exact cut41  _ _ _ (by exact Or.inl ⟨hm9.resolve_left (by assumption), by assumption⟩) hl hP hD hS
        exact cut32  _ _ _ (by exact fun q => absurd q.2 (by assumption)) hl hP hD hS
      refine lv_iconst (pc := 21) (v := iv 1) gX gB dL_endBetween_21 rfl ?_
      exact hret _ (1) dL_endBetween_22 ⟨rfl, by unfold ebf; rw [if_neg (by assumption), if_neg h16, if_pos (by assumption)]⟩ hP hD hS
    refine lv_iconst (pc := 14) (v := iv 0) gX gB dL_endBetween_14 rfl ?_
    exact hret _ (0) dL_endBetween_15 ⟨rfl, by unfold ebf; rw [if_neg (by assumption), if_pos (hw8.2.mp (by omega))]⟩ hP hD hS
  refine lv_iconst (pc := 5) (v := iv 2) gX gB dL_endBetween_5 rfl ?_
  exact hret _ (2) dL_endBetween_6 ⟨rfl, by unfold ebf; rw [if_pos (by assumption)]⟩ hP hD hS
set_option maxRecDepth 100000 in
set_option maxHeartbeats 1000000 in
theorem c_L_kindOverSpaces (l : Launch) (dC : Nat → ClassId) (dI : Nat → Nat → Nat) (cI : ClassId) (cZ : ClassId) (cG : ClassId) (cR : ClassId) (lA : Nat → Nat) (lk : Int → Int) (sz : Nat) (i : Int) (hi : -1 ≤ i ∧ i < 40) (hlc : ∀ j, 0 ≤ j → j ≤ i → 0 ≤ lk j ∧ lk j ≤ 12) : Met l yL_kindOverSpaces wsL_kindOverSpaces ({ frames := 0, cells := 0, slots := 0, locals := 0 }) (va_Pc [.ref (lA 0), .int (iv i)] (jPre (dC, dI) (jT cI cZ cG cR) (wL cI cZ cG cR lA lk) sz)) (va_Qi (fun (r0 : Int32) (u : Int) => r0 = iv u ∧ (u = osf lk (i + 1).toNat)) (fun u => jEnd (dC, dI) (jT cI cZ cG cR) (va_A (wL cI cZ cG cR lA lk) sz) (wL cI cZ cG cR lA lk)) (va_A (wL cI cZ cG cR lA lk) sz)) 0 0 (va_A (wL cI cZ cG cR lA lk) sz) := by
  refine jv_mi (cc := cL_kindOverSpaces) (maxL := 3) (by decide) rfl (Nat.le_of_ble_eq_true rfl) ?_
  intro p0 e0 s0 m0 a0 b0 t0 c0 R0 Q0 A0 ls gX gB hts hown hml hRf hRl hA hK hret hl hP hD hS
  have hown : s0.vm.findClass "TextPipeline$Lines" = some m0.cls := hown
  have hw0 : ∀ w ∈ WS0, w.before a0 s0 = true := fun w h => hts w (List.mem_cons_of_mem _ h)
  have hl : lv_has ls 3 [(0, .ref (lA 0)), (1, .int (iv i))] := hl
  have hRf : 0 ≤ R0.frames := hRf
  have hRl : 0 ≤ R0.locals := hRl
  refine lv_iload_n (pc := 0) gX gB dL_kindOverSpaces_0 rfl (lv_at hl 1 rfl) ?_
  refine lv_istore_n (pc := 1) (lv' := [(2, .int (iv i)), (0, .ref (lA 0)), (1, .int (iv i))]) gX gB dL_kindOverSpaces_1 rfl hl (by decide) rfl (fun ls hl => ?_)
  have cut2 : ∀ (n0 : Nat) (s : Int) (ls : Array Slot) (H : Heap) (locs : List Loc), (-1 ≤ s ∧ s ≤ i) → (osf lk (s + 1).toNat = osf lk (i + 1).toNat) → ((s + 1 : Int).toNat < n0) → lv_has ls 3 [(0, .ref (lA 0)), (1, .int (iv i)), (2, .int (iv s))] → va_P (dC, dI) vwCl (wL cI cZ cG cR lA lk) H → va_D A0 (wL cI cZ cG cR lA lk) → va_S A0 s0.heap H locs → W p0 l e0 R0 s0 m0 a0 b0 t0 c0 H locs 0 0 Q0 (F0 m0 2 ls []) := by
    intro n0
    induction n0 with
    | zero => intro s ls H locs hs hq hm hl hP hD hS; exact absurd hm (Nat.not_lt_zero _)
    | succ n0 ih2 =>
      intro s ls H locs hs hq hm2 hl hP hD hS
      refine lv_iload_n (pc := 2) gX gB dL_kindOverSpaces_2 rfl (lv_at hl 2 rfl) ?_
      refine jv_if_lt (pc := 3) (tgt := 22) gX gB dL_kindOverSpaces_3 (by decide) (by omega) (fun h1 => ?_) (fun h1 => ?_)
      · skip
        refine lv_iload_n (pc := 22) gX gB dL_kindOverSpaces_22 rfl (lv_at hl 2 rfl) ?_
        refine jv_if_ge (pc := 23) (tgt := 30) gX gB dL_kindOverSpaces_23 (by decide) (by omega) (fun h2 => ?_) (fun h2 => ?_)
        · skip
          refine lv_aload_n (pc := 30) gX gB dL_kindOverSpaces_30 rfl (lv_at hl 0 rfl) ?_
          refine va_get (pc := 31) (D := (dC, dI)) (ci := 3) (v := .ref (lA 1)) (C := RL) (T := TL) (N := 1) gX gB hw0 inL hown hK hP 0 rfl rfl 0 (by decide) (hw0 _ q108) (fun _ h9 => h9) rfl dL_kindOverSpaces_31 ?_
          refine lv_iload_n (pc := 34) gX gB dL_kindOverSpaces_34 rfl (lv_at hl 2 rfl) ?_
          refine jv_iald (pc := 35) gX gB hK hP 1 0 rfl rfl (by decide) (by omega) dL_kindOverSpaces_35 ?_
          exact hret _ (lk s) dL_kindOverSpaces_36 ⟨rfl, by first | (rw [← hq, show s = -1 by omega]; rfl) | (rw [← hq, ho, if_neg (by omega)]) | (exfalso; omega)⟩ hP hD hS
        refine lv_iconst (pc := 26) (v := iv (-1)) gX gB dL_kindOverSpaces_26 rfl ?_
        refine lv_goto (pc := 27) (tgt := 36) gX gB dL_kindOverSpaces_27 (by decide) ?_
        exact hret _ ((-1)) dL_kindOverSpaces_36 ⟨rfl, by first | (rw [← hq, show s = -1 by omega]; rfl) | (rw [← hq, ho, if_neg (by omega)]) | (exfalso; omega)⟩ hP hD hS
      have hls := hlc s (by omega) (by omega)
      have ho := osf_s (g := lk) (s := s) (by omega)
      refine lv_aload_n (pc := 6) gX gB dL_kindOverSpaces_6 rfl (lv_at hl 0 rfl) ?_
      refine va_get (pc := 7) (D := (dC, dI)) (ci := 3) (v := .ref (lA 1)) (C := RL) (T := TL) (N := 1) gX gB hw0 inL hown hK hP 0 rfl rfl 0 (by decide) (hw0 _ q108) (fun _ h9 => h9) rfl dL_kindOverSpaces_7 ?_
      refine lv_iload_n (pc := 10) gX gB dL_kindOverSpaces_10 rfl (lv_at hl 2 rfl) ?_
      refine jv_iald (pc := 11) gX gB hK hP 1 0 rfl rfl (by decide) (by omega) dL_kindOverSpaces_11 ?_
      refine lv_iconst (pc := 12) (v := iv 2) gX gB dL_kindOverSpaces_12 rfl ?_
      refine jv_icmp_ne (pc := 13) (tgt := 22) gX gB dL_kindOverSpaces_13 (by decide) (by omega) (by decide) (fun h3 => ?_) (fun h3 => ?_)
      · skip
        refine lv_iload_n (pc := 22) gX gB dL_kindOverSpaces_22 rfl (lv_at hl 2 rfl) ?_
        refine jv_if_ge (pc := 23) (tgt := 30) gX gB dL_kindOverSpaces_23 (by decide) (by omega) (fun h4 => ?_) (fun h4 => ?_)
        · skip
          refine lv_aload_n (pc := 30) gX gB dL_kindOverSpaces_30 rfl (lv_at hl 0 rfl) ?_
          refine va_get (pc := 31) (D := (dC, dI)) (ci := 3) (v := .ref (lA 1)) (C := RL) (T := TL) (N := 1) gX gB hw0 inL hown hK hP 0 rfl rfl 0 (by decide) (hw0 _ q108) (fun _ h9 => h9) rfl dL_kindOverSpaces_31 ?_
          refine lv_iload_n (pc := 34) gX gB dL_kindOverSpaces_34 rfl (lv_at hl 2 rfl) ?_
          refine jv_iald (pc := 35) gX gB hK hP 1 0 rfl rfl (by decide) (by omega) dL_kindOverSpaces_35 ?_
          exact hret _ (lk s) dL_kindOverSpaces_36 ⟨rfl, by first | (rw [← hq, show s = -1 by omega]; rfl) | (rw [← hq, ho, if_neg (by omega)]) | (exfalso; omega)⟩ hP hD hS
        refine lv_iconst (pc := 26) (v := iv (-1)) gX gB dL_kindOverSpaces_26 rfl ?_
        refine lv_goto (pc := 27) (tgt := 36) gX gB dL_kindOverSpaces_27 (by decide) ?_
        exact hret _ ((-1)) dL_kindOverSpaces_36 ⟨rfl, by first | (rw [← hq, show s = -1 by omega]; rfl) | (rw [← hq, ho, if_neg (by omega)]) | (exfalso; omega)⟩ hP hD hS
      refine jv_idec (pc := 16) (k := 2) (x := s) (n := (-1)) (d := 1) (lv' := [(2, .int (iv (s - 1))), (0, .ref (lA 0)), (1, .int (iv i))]) gX gB dL_kindOverSpaces_16 (by decide) hl rfl (by decide) rfl (fun ls hl => ?_)
      refine lv_goto (pc := 19) (tgt := 2) gX gB dL_kindOverSpaces_19 (by decide) ?_
      exact ih2 (s - 1) _ _ _ (by omega) (by rw [← hq, ho, if_pos (by omega), show s - 1 + 1 = s by omega]) (by omega) (lv_sub hl [1, 2, 0] rfl) hP hD hS
  exact cut2 (((i + 1 : Int).toNat) + 1) i _ _ _ (by omega) (by rfl) (Nat.lt_succ_self _) (lv_sub hl [1, 2, 0] rfl) hP hD hS
set_option maxRecDepth 100000 in
set_option maxHeartbeats 4000000 in
theorem c_L_findKinds (l : Launch) (dC : Nat → ClassId) (dI : Nat → Nat → Nat) (cI : ClassId) (cZ : ClassId) (cG : ClassId) (cR : ClassId) (lA : Nat → Nat) (lk : Int → Int) (tA : Nat → Nat) (pr0 : Int → Int) (pr1 : Int → Int) (pr2 : Int → Int) (pr3 : Int → Int) (pr4 : Int → Int) (pr5 : Int → Int) (pr6 : Int → Int) (t1 : Int → Int) (t2 : Int → Int) (ex : Int → Int) (pt : Int → Int) (pn : Int → Int) (tc : Int → Int) (xa : Nat) (xi : Nat) (xn : Nat) (xs : Int) (xf : Int → Int) (sz : Nat) (hcap : xn < 1000) (hsx : 0 ≤ xs ∧ xs ≤ (xn : Int) ∧ xs ≤ 40) (hxf : ∀ j, 0 ≤ j → j < xs → 0 ≤ xf j ∧ xf j < 75) (hp2 : ∀ c, 0 ≤ c → c < 75 → 0 ≤ pr2 c ∧ pr2 c ≤ 12) : Met l yL_findKinds wsL_findKinds ({ frames := 1, cells := 0, slots := 0, locals := 21 }) (va_Pc [.ref (lA 0), .ref (tA 0), .ref xa] (jPre (dC, dI) (jT cI cZ cG cR) (wLTR cI cZ cG cR lA lk tA pr0 pr1 pr2 pr3 pr4 pr5 pr6 t1 t2 ex pt pn tc xa xi xn xs xf) sz)) (va_Qv (fun u : (Int → Int) => ∀ j, 0 ≤ j → j < xs → u j = lkf pr2 xf j.toNat) (fun u => jEnd (dC, dI) (jT cI cZ cG cR) (va_A (wLTR cI cZ cG cR lA lk tA pr0 pr1 pr2 pr3 pr4 pr5 pr6 t1 t2 ex pt pn tc xa xi xn xs xf) sz) (wLTR cI cZ cG cR lA u tA pr0 pr1 pr2 pr3 pr4 pr5 pr6 t1 t2 ex pt pn tc xa xi xn xs xf)) (va_A (wLTR cI cZ cG cR lA lk tA pr0 pr1 pr2 pr3 pr4 pr5 pr6 t1 t2 ex pt pn tc xa xi xn xs xf) sz)) 0 0 (va_A (wLTR cI cZ cG cR lA lk tA pr0 pr1 pr2 pr3 pr4 pr5 pr6 t1 t2 ex pt pn tc xa xi xn xs xf) sz) := by
  refine jv_mv (cc := cL_findKinds) (maxL := 6) (by decide) rfl (Nat.le_of_ble_eq_true rfl) ?_
  intro p0 e0 s0 m0 a0 b0 t0 c0 R0 Q0 A0 ls gX gB hts hown hml hRf hRl hA hK hret hl hP hD hS
  have hown : s0.vm.findClass "TextPipeline$Lines" = some m0.cls := hown
  have hw0 : ∀ w ∈ WS0, w.before a0 s0 = true := fun w h => hts w (List.mem_cons_of_mem _ h)
  have hl : lv_has ls 6 [(0, .ref (lA 0)), (1, .ref (tA 0)), (2, .ref xa)] := hl
  have hRf : 1 ≤ R0.frames := hRf
  have hRl : 21 ≤ R0.locals := hRl
  refine lv_iconst (pc := 0) (v := iv (-1)) gX gB dL_findKinds_0 rfl ?_
  refine lv_istore_n (pc := 1) (lv' := [(3, .int (iv (-1))), (0, .ref (lA 0)), (1, .ref (tA 0)), (2, .ref xa)]) gX gB dL_findKinds_1 rfl hl (by decide) rfl (fun ls hl => ?_)
  refine lv_iconst (pc := 2) (v := iv 0) gX gB dL_findKinds_2 rfl ?_
  refine lv_istore (pc := 3) (lv' := [(4, .int (iv 0)), (3, .int (iv (-1))), (0, .ref (lA 0)), (1, .ref (tA 0)), (2, .ref xa)]) gX gB dL_findKinds_3 hl (by decide) rfl (fun ls hl => ?_)
  have cut5 : ∀ (n0 : Nat) (be : Int) (i : Int) (g : Int → Int) (ls : Array Slot) (H : Heap) (locs : List Loc), (0 ≤ i ∧ i ≤ xs) → (-1 ≤ be ∧ be ≤ 12) → ((i = 0 ∧ be = -1) ∨ (0 < i ∧ be = lkf pr2 xf (i - 1).toNat)) → (∀ j, 0 ≤ j → j < i → g j = lkf pr2 xf j.toNat) → ((xs - i : Int).toNat < n0) → lv_has ls 6 [(0, .ref (lA 0)), (1, .ref (tA 0)), (2, .ref xa), (3, .int (iv be)), (4, .int (iv i))] → va_P (dC, dI) vwCl (wLTR cI cZ cG cR lA g tA pr0 pr1 pr2 pr3 pr4 pr5 pr6 t1 t2 ex pt pn tc xa xi xn xs xf) H → va_D A0 (wLTR cI cZ cG cR lA g tA pr0 pr1 pr2 pr3 pr4 pr5 pr6 t1 t2 ex pt pn tc xa xi xn xs xf) → va_S A0 s0.heap H locs → W p0 l e0 R0 s0 m0 a0 b0 t0 c0 H locs 0 0 Q0 (F0 m0 5 ls []) := by
    intro n0
    induction n0 with
    | zero => intro be i g ls H locs hi hb9 hbe hq hm hl hP hD hS; exact absurd hm (Nat.not_lt_zero _)
    | succ n0 ih5 =>
      intro be i g ls H locs hi hb9 hbe hq hm5 hl hP hD hS
      refine lv_iload (pc := 5) gX gB dL_findKinds_5 (lv_at hl 4 rfl) ?_
      refine lv_aload_n (pc := 7) gX gB dL_findKinds_7 rfl (lv_at hl 2 rfl) ?_
      refine jv_ri (pc := 8) (wr := [(lA 0, .inr (3, [.ref (lA 1)])), (lA 1, .inl (cI, 40, .inl (av g))), (tA 0, .inr (1, [.ref (tA 1), .ref (tA 9), .ref (tA 10), .ref (tA 11), .ref (tA 12), .ref (tA 13), .ref (tA 14)])), (tA 1, .inl (cG, 7, .inr (.inr (.inr (.inr (rfs [tA 2, tA 3, tA 4, tA 5, tA 6, tA 7, tA 8])))))), (tA 2, .inl (cI, 75, .inl (av pr0))), (tA 3, .inl (cI, 75, .inl (av pr1))), (tA 4, .inl (cI, 75, .inl (av pr2))), (tA 5, .inl (cI, 75, .inl (av pr3))), (tA 6, .inl (cI, 75, .inl (av pr4))), (tA 7, .inl (cI, 75, .inl (av pr5))), (tA 8, .inl (cI, 75, .inl (av pr6))), (tA 9, .inl (cI, 75, .inl (av t1))), (tA 10, .inl (cI, 75, .inl (av t2))), (tA 11, .inl (cZ, 75, .inl (av ex))), (tA 12, .inl (cI, 300, .inl (av pt))), (tA 13, .inl (cI, 75, .inl (av pn))), (tA 14, .inl (cI, 75, .inl (av tc)))]) (wn := fun u : Int => (wLTR cI cZ cG cR lA g tA pr0 pr1 pr2 pr3 pr4 pr5 pr6 t1 t2 ex pt pn tc xa xi xn xs xf)) (va_runV (rest := [.int (iv i)]) ⟨gX, gB, hml, hown, hw0⟩ (c_R_size l dC dI cI cZ cG cR xa xi xn xs xf _  ) (jcV hw0 kR_size q477 rfl rfl ⟨Nat.le_trans (Nat.le_of_ble_eq_true rfl) hRf, Nat.le_trans (Nat.le_of_ble_eq_true rfl) hRl⟩) (jv_preV (ci := 2) (q0 := 17) hK hP hD [17, 18] rfl (by decide) rfl rfl) rfl rfl hl.1 rfl (lv_room (Nat.le_of_ble_eq_true rfl)) dL_findKinds_8 ⟨Nat.zero_le _, Nat.zero_le _⟩) hP hD hS hA [17, 18] [0, 1, 2, 3, 4, 5, 6, 7, 8, 9, 10, 11, 12, 13, 14, 15, 16] [0, 1, 2, 3, 4, 5, 6, 7, 8, 9, 10, 11, 12, 13, 14, 15, 16, 17, 18] rfl rfl (by decide) (by decide) (by decide) (fun _ => rfl) (fun r0 u H locs hw8 hP hD hS => ?_)
      obtain ⟨r_8, hu⟩ : ∃ z, z = u := ⟨_, rfl⟩; subst hu
      obtain ⟨rfl, hw8⟩ := hw8
      refine jv_icmp_ge (pc := 11) (tgt := 70) gX gB dL_findKinds_11 (by decide) (by omega) (by omega) (fun h1 => ?_) (fun h1 => ?_)
      · skip
        exact hret (g) dL_findKinds_70 (by rw [show i = xs by omega] at hq; exact hq) hP hD hS
      have hxi := hxf i (by omega) (by omega)
      have hci := hp2 _ hxi.1 hxi.2
      refine lv_aload_n (pc := 14) gX gB dL_findKinds_14 rfl (lv_at hl 1 rfl) ?_
      refine lv_aload_n (pc := 15) gX gB dL_findKinds_15 rfl (lv_at hl 2 rfl) ?_
      refine lv_iload (pc := 16) gX gB dL_findKinds_16 (lv_at hl 4 rfl) ?_
      refine jv_ri (pc := 18) (wr := [(lA 0, .inr (3, [.ref (lA 1)])), (lA 1, .inl (cI, 40, .inl (av g))), (tA 0, .inr (1, [.ref (tA 1), .ref (tA 9), .ref (tA 10), .ref (tA 11), .ref (tA 12), .ref (tA 13), .ref (tA 14)])), (tA 1, .inl (cG, 7, .inr (.inr (.inr (.inr (rfs [tA 2, tA 3, tA 4, tA 5, tA 6, tA 7, tA 8])))))), (tA 2, .inl (cI, 75, .inl (av pr0))), (tA 3, .inl (cI, 75, .inl (av pr1))), (tA 4, .inl (cI, 75, .inl (av pr2))), (tA 5, .inl (cI, 75, .inl (av pr3))), (tA 6, .inl (cI, 75, .inl (av pr4))), (tA 7, .inl (cI, 75, .inl (av pr5))), (tA 8, .inl (cI, 75, .inl (av pr6))), (tA 9, .inl (cI, 75, .inl (av t1))), (tA 10, .inl (cI, 75, .inl (av t2))), (tA 11, .inl (cZ, 75, .inl (av ex))), (tA 12, .inl (cI, 300, .inl (av pt))), (tA 13, .inl (cI, 75, .inl (av pn))), (tA 14, .inl (cI, 75, .inl (av tc)))]) (wn := fun u : Int => (wLTR cI cZ cG cR lA g tA pr0 pr1 pr2 pr3 pr4 pr5 pr6 t1 t2 ex pt pn tc xa xi xn xs xf)) (va_runV (rest := [.ref (tA 0)]) ⟨gX, gB, hml, hown, hw0⟩ (c_R_item l dC dI cI cZ cG cR xa xi xn xs xf _ i (by omega) (by omega)) (jcV hw0 kR_item q482 rfl rfl ⟨Nat.le_trans (Nat.le_of_ble_eq_true rfl) hRf, Nat.le_trans (Nat.le_of_ble_eq_true rfl) hRl⟩) (jv_preV (ci := 2) (q0 := 17) hK hP hD [17, 18] rfl (by decide) rfl rfl) rfl rfl hl.1 rfl (lv_room (Nat.le_of_ble_eq_true rfl)) dL_findKinds_18 ⟨Nat.zero_le _, Nat.zero_le _⟩) hP hD hS hA [17, 18] [0, 1, 2, 3, 4, 5, 6, 7, 8, 9, 10, 11, 12, 13, 14, 15, 16] [0, 1, 2, 3, 4, 5, 6, 7, 8, 9, 10, 11, 12, 13, 14, 15, 16, 17, 18] rfl rfl (by decide) (by decide) (by decide) (fun _ => rfl) (fun r0 u H locs hw18 hP hD hS => ?_)
      obtain ⟨r_18, hu⟩ : ∃ z, z = u := ⟨_, rfl⟩; subst hu
      obtain ⟨rfl, hw18⟩ := hw18
      refine jv_ri (pc := 21) (wr := [(lA 0, .inr (3, [.ref (lA 1)])), (lA 1, .inl (cI, 40, .inl (av g))), (xa, .inr (2, [.ref xi, .int (iv xs)])), (xi, .inl (cI, xn, .inl (av xf)))]) (wn := fun u : Int => (wLTR cI cZ cG cR lA g tA pr0 pr1 pr2 pr3 pr4 pr5 pr6 t1 t2 ex pt pn tc xa xi xn xs xf)) (va_runV (rest := []) ⟨gX, gB, hml, hown, hw0⟩ (c_T_lineClass l dC dI cI cZ cG cR tA pr0 pr1 pr2 pr3 pr4 pr5 pr6 t1 t2 ex pt pn tc _ r_18 (by rw [hw18]; exact hxi)) (jcV hw0 kT_lineClass q483 rfl rfl ⟨Nat.le_trans (Nat.le_of_ble_eq_true rfl) hRf, Nat.le_trans (Nat.le_of_ble_eq_true rfl) hRl⟩) (jv_preV (ci := 1) (q0 := 2) hK hP hD [2, 3, 4, 5, 6, 7, 8, 9, 10, 11, 12, 13, 14, 15, 16] rfl (by decide) rfl rfl) rfl rfl hl.1 rfl (lv_room (Nat.le_of_ble_eq_true rfl)) dL_findKinds_21 ⟨Nat.zero_le _, Nat.zero_le _⟩) hP hD hS hA [2, 3, 4, 5, 6, 7, 8, 9, 10, 11, 12, 13, 14, 15, 16] [0, 1, 17, 18] [0, 1, 4, 5, 6, 7, 8, 9, 10, 11, 12, 13, 14, 15, 16, 17, 18, 2, 3] rfl rfl (by decide) (by decide) (by decide) (fun _ => rfl) (fun r0 u H locs hw21 hP hD hS => ?_)
      obtain ⟨r_21, hu⟩ : ∃ z, z = u := ⟨_, rfl⟩; subst hu
      obtain ⟨rfl, hw21⟩ := hw21
      have hr21 : r_21 = pr2 (xf i) := by rw [hw21, hw18]
      refine lv_istore (pc := 24) (lv' := [(5, .int (iv r_21)), (0, .ref (lA 0)), (1, .ref (tA 0)), (2, .ref xa), (3, .int (iv be)), (4, .int (iv i))]) gX gB dL_findKinds_24 hl (by decide) rfl (fun ls hl => ?_)
      have cut52 : ∀ (kd : Int) (ls : Array Slot) (H : Heap) (locs : List Loc), (kd = lkf pr2 xf i.toNat) → (0 ≤ kd ∧ kd ≤ 12) → lv_has ls 6 [(0, .ref (lA 0)), (1, .ref (tA 0)), (2, .ref xa), (4, .int (iv i)), (5, .int (iv kd))] → va_P (dC, dI) vwCl (wLTR cI cZ cG cR lA g tA pr0 pr1 pr2 pr3 pr4 pr5 pr6 t1 t2 ex pt pn tc xa xi xn xs xf) H → va_D A0 (wLTR cI cZ cG cR lA g tA pr0 pr1 pr2 pr3 pr4 pr5 pr6 t1 t2 ex pt pn tc xa xi xn xs xf) → va_S A0 s0.heap H locs → W p0 l e0 R0 s0 m0 a0 b0 t0 c0 H locs 0 0 Q0 (F0 m0 52 ls []) := by
        intro kd ls H locs hkd hkr hl hP hD hS
        refine lv_aload_n (pc := 52) gX gB dL_findKinds_52 rfl (lv_at hl 0 rfl) ?_
        refine va_get (pc := 53) (D := (dC, dI)) (ci := 3) (v := .ref (lA 1)) (C := RL) (T := TL) (N := 1) gX gB hw0 inL hown hK hP 0 rfl rfl 0 (by decide) (hw0 _ q108) (fun _ h9 => h9) rfl dL_findKinds_53 ?_
        refine lv_iload (pc := 56) gX gB dL_findKinds_56 (lv_at hl 3 rfl) ?_
        refine lv_iload (pc := 58) gX gB dL_findKinds_58 (lv_at hl 4 rfl) ?_
        refine jv_iast (pc := 60) (ws' := (wLTR cI cZ cG cR lA (uI g i kd) tA pr0 pr1 pr2 pr3 pr4 pr5 pr6 t1 t2 ex pt pn tc xa xi xn xs xf)) gX gB hK hP hD hS 1 0 rfl rfl (by decide) (by omega) dL_findKinds_60 rfl (fun H locs hP hD hS => ?_)
        refine lv_iload (pc := 61) gX gB dL_findKinds_61 (lv_at hl 4 rfl) ?_
        refine lv_istore_n (pc := 63) (lv' := [(3, .int (iv kd)), (0, .ref (lA 0)), (1, .ref (tA 0)), (2, .ref xa), (4, .int (iv i)), (5, .int (iv kd))]) gX gB dL_findKinds_63 rfl hl (by decide) rfl (fun ls hl => ?_)
        refine jv_iinc (pc := 64) (k := 4) (x := i) (n := 1) (lv' := [(4, .int (iv (i + 1))), (3, .int (iv kd)), (0, .ref (lA 0)), (1, .ref (tA 0)), (2, .ref xa), (5, .int (iv kd))]) gX gB dL_findKinds_64 hl rfl (by decide) rfl (fun ls hl => ?_)
        refine lv_goto (pc := 67) (tgt := 5) gX gB dL_findKinds_67 (by decide) ?_
        exact ih5 kd (i + 1) (uI g i kd) _ _ _ (by omega) (by omega) (by exact Or.inr ⟨by omega, by rw [show i + 1 - 1 = i by omega]; exact hkd⟩) (by intro j a b; by_cases e : j = i; (rw [uI_e e, e]; exact hkd); (rw [uI_n e]; exact hq j a (by omega))) (by omega) (lv_sub hl [2, 3, 4, 1, 0] rfl) hP hD hS
      refine lv_iload (pc := 26) gX gB dL_findKinds_26 (lv_at hl 0 rfl) ?_
      refine lv_bipush (pc := 28) (v := iv 11) gX gB dL_findKinds_28 (by decide) ?_
      refine jv_icmp_ne (pc := 30) (tgt := 52) gX gB dL_findKinds_30 (by decide) (by omega) (by decide) (fun h2 => ?_) (fun h2 => ?_)
      · skip
        exact cut52 r_21 _ _ _ (by by_cases z : 1 ≤ i; (rw [lkf_s z, if_pos (by omega)]; exact hr21); (rw [show i = 0 by omega, lkf_0, if_pos (by rw [show (0 : Int) = i by omega]; omega)]; rw [hr21, show i = 0 by omega])) (by omega) (lv_sub hl [1, 2, 3, 5, 0] rfl) hP hD hS
      have h11 : ¬ pr2 (xf i) ≠ 11 := fun q => q (by omega)
      have hbr : 0 < i → 0 ≤ be := fun z => by rcases hbe with y | y; omega; (rw [y.2]; exact (lkf_rng (lz := fun c => if 0 ≤ c ∧ c < 75 then pr2 c else 0) (tx := xf) (fun c h => by (show 0 ≤ (if 0 ≤ c ∧ c < 75 then pr2 c else 0) ∧ (if 0 ≤ c ∧ c < 75 then pr2 c else 0) ≤ 12); split; (exact hp2 c (by omega) (by omega)); omega) (i - 1).toNat (fun j a b => (hxf j a (by omega)).1) |> fun q => by rw [lkf_congr (lz2 := pr2) (i - 1).toNat (fun j a b => by have := hxf j a (by omega); exact if_pos this)] at q; exact q.1))
      have cut50 : ∀ (v : Int) (ls : Array Slot) (H : Heap) (locs : List Loc), (v = lkf pr2 xf i.toNat) → (0 ≤ v ∧ v ≤ 12) → lv_has ls 6 [(0, .ref (lA 0)), (1, .ref (tA 0)), (2, .ref xa), (4, .int (iv i))] → va_P (dC, dI) vwCl (wLTR cI cZ cG cR lA g tA pr0 pr1 pr2 pr3 pr4 pr5 pr6 t1 t2 ex pt pn tc xa xi xn xs xf) H → va_D A0 (wLTR cI cZ cG cR lA g tA pr0 pr1 pr2 pr3 pr4 pr5 pr6 t1 t2 ex pt pn tc xa xi xn xs xf) → va_S A0 s0.heap H locs → W p0 l e0 R0 s0 m0 a0 b0 t0 c0 H locs 0 0 Q0 (F0 m0 50 ls [.int (iv v)]) := by
        intro v ls H locs hv9 hvr hl hP hD hS
        refine lv_istore (pc := 50) (lv' := [(5, .int (iv v)), (0, .ref (lA 0)), (1, .ref (tA 0)), (2, .ref xa), (4, .int (iv i))]) gX gB dL_findKinds_50 hl (by decide) rfl (fun ls hl => ?_)
        exact cut52 v _ _ _ (by exact hv9) (by exact hvr) (lv_sub hl [1, 2, 3, 4, 0] rfl) hP hD hS
      have cut45 : ∀ (ls : Array Slot) (H : Heap) (locs : List Loc), (be = -1 ∨ (0 < be ∧ be < 4)) → lv_has ls 6 [(0, .ref (lA 0)), (1, .ref (tA 0)), (2, .ref xa), (3, .int (iv be)), (4, .int (iv i)), (5, .int (iv r_21))] → va_P (dC, dI) vwCl (wLTR cI cZ cG cR lA g tA pr0 pr1 pr2 pr3 pr4 pr5 pr6 t1 t2 ex pt pn tc xa xi xn xs xf) H → va_D A0 (wLTR cI cZ cG cR lA g tA pr0 pr1 pr2 pr3 pr4 pr5 pr6 t1 t2 ex pt pn tc xa xi xn xs xf) → va_S A0 s0.heap H locs → W p0 l e0 R0 s0 m0 a0 b0 t0 c0 H locs 0 0 Q0 (F0 m0 45 ls []) := by
        intro  ls H locs h45 hl hP hD hS
        refine lv_iconst (pc := 45) (v := iv 0) gX gB dL_findKinds_45 rfl ?_
        refine lv_goto (pc := 46) (tgt := 50) gX gB dL_findKinds_46 (by decide) ?_
        exact cut50 0 _ _ _ (by by_cases z : 1 ≤ i; (have y : be = lkf pr2 xf (i - 1).toNat := (by rcases hbe with y | y; omega; exact y.2); have := hbr (by omega); rw [lkf_s z, if_neg h11, if_neg (by rw [← y]; omega)]); (rw [show i = 0 by omega, lkf_0, if_neg (by rw [show (0 : Int) = i by omega]; exact h11)])) (by omega) (lv_sub hl [0, 1, 2, 4] rfl) hP hD hS
      refine lv_iload_n (pc := 33) gX gB dL_findKinds_33 rfl (lv_at hl 4 rfl) ?_
      refine lv_iconst (pc := 34) (v := iv (-1)) gX gB dL_findKinds_34 rfl ?_
      refine jv_icmp_eq (pc := 35) (tgt := 45) gX gB dL_findKinds_35 (by decide) (by omega) (by decide) (fun h3 => ?_) (fun h3 => ?_)
      · skip
        exact cut45  _ _ _ (by exact Or.inl (by assumption)) (lv_sub hl [1, 2, 3, 4, 5, 0] rfl) hP hD hS
      refine lv_iload_n (pc := 38) gX gB dL_findKinds_38 rfl (lv_at hl 4 rfl) ?_
      refine jv_ri (pc := 39) (wr := [(lA 0, .inr (3, [.ref (lA 1)])), (lA 1, .inl (cI, 40, .inl (av g))), (tA 0, .inr (1, [.ref (tA 1), .ref (tA 9), .ref (tA 10), .ref (tA 11), .ref (tA 12), .ref (tA 13), .ref (tA 14)])), (tA 1, .inl (cG, 7, .inr (.inr (.inr (.inr (rfs [tA 2, tA 3, tA 4, tA 5, tA 6, tA 7, tA 8])))))), (tA 2, .inl (cI, 75, .inl (av pr0))), (tA 3, .inl (cI, 75, .inl (av pr1))), (tA 4, .inl (cI, 75, .inl (av pr2))), (tA 5, .inl (cI, 75, .inl (av pr3))), (tA 6, .inl (cI, 75, .inl (av pr4))), (tA 7, .inl (cI, 75, .inl (av pr5))), (tA 8, .inl (cI, 75, .inl (av pr6))), (tA 9, .inl (cI, 75, .inl (av t1))), (tA 10, .inl (cI, 75, .inl (av t2))), (tA 11, .inl (cZ, 75, .inl (av ex))), (tA 12, .inl (cI, 300, .inl (av pt))), (tA 13, .inl (cI, 75, .inl (av pn))), (tA 14, .inl (cI, 75, .inl (av tc))), (xa, .inr (2, [.ref xi, .int (iv xs)])), (xi, .inl (cI, xn, .inl (av xf)))]) (wn := fun u : Int => (wLTR cI cZ cG cR lA g tA pr0 pr1 pr2 pr3 pr4 pr5 pr6 t1 t2 ex pt pn tc xa xi xn xs xf)) (va_runS (rest := []) ⟨gX, gB, hml, hown, hw0⟩ (c_L_isGap l dC dI cI cZ cG cR  _ be (by omega)) (jcS hw0 kL_isGap q487 rfl rfl ⟨Nat.le_trans (Nat.le_of_ble_eq_true rfl) hRf, Nat.le_trans (Nat.le_of_ble_eq_true rfl) hRl⟩) (jv_preS hK hP hD [] rfl (by decide)) rfl rfl hl.1 rfl (lv_room (Nat.le_of_ble_eq_true rfl)) dL_findKinds_39 ⟨Nat.zero_le _, Nat.zero_le _⟩) hP hD hS hA [] [0, 1, 2, 3, 4, 5, 6, 7, 8, 9, 10, 11, 12, 13, 14, 15, 16, 17, 18] [0, 1, 2, 3, 4, 5, 6, 7, 8, 9, 10, 11, 12, 13, 14, 15, 16, 17, 18] rfl rfl (by decide) (by decide) (by decide) (fun _ => rfl) (fun r0 u H locs hw39 hP hD hS => ?_)
      obtain ⟨r_39, hu⟩ : ∃ z, z = u := ⟨_, rfl⟩; subst hu
      obtain ⟨rfl, hw39⟩ := hw39
      refine jv_if_eq (pc := 42) (tgt := 49) gX gB dL_findKinds_42 (by decide) (by omega) (fun h4 => ?_) (fun h4 => ?_)
      · skip
        refine lv_iload_n (pc := 49) gX gB dL_findKinds_49 rfl (lv_at hl 4 rfl) ?_
        exact cut50 be _ _ _ (by have hng : ¬ (0 < be ∧ be < 4) := (fun q => by have := hw39.2.mpr q; omega); have y : 0 < i ∧ be = lkf pr2 xf (i - 1).toNat := (by rcases hbe with y | y; (exact absurd y.2 (by assumption)); exact y); have := hbr y.1; rw [lkf_s (by omega), if_neg h11, ← y.2, if_pos (by omega)]) (by have : be ≠ -1 := (by assumption); omega) (lv_sub hl [1, 2, 3, 5] rfl) hP hD hS
      exact cut45  _ _ _ (by exact Or.inr (hw39.2.mp (by omega))) (lv_sub hl [1, 2, 3, 4, 5, 0] rfl) hP hD hS
  exact cut5 (((xs - 0 : Int).toNat) + 1) (-1) 0 lk _ _ _ (by omega) (by omega) (by exact Or.inl ⟨rfl, rfl⟩) (by intro j a b; omega) (Nat.lt_succ_self _) (lv_sub hl [2, 3, 4, 1, 0] rfl) hP hD hS
