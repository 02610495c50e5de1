set_option maxRecDepth 100000 in
set_option maxHeartbeats 1000000 in
theorem c_J_compare (l : Launch) (dC : Nat → ClassId) (dI : Nat → Nat → Nat) (cI : ClassId) (cZ : ClassId) (cG : ClassId) (cR : ClassId)  (sz : Nat) (a : Int) (b : Int) (ha : -2147483648 ≤ a ∧ a < 2147483648) (hb9 : -2147483648 ≤ b ∧ b < 2147483648) : Met l yJ_compare wsJ_compare ({ frames := 0, cells := 0, slots := 0, locals := 0 }) (va_Pc [.int (iv a), .int (iv b)] (jPre (dC, dI) (jT cI cZ cG cR) (wE cI cZ cG cR) sz)) (va_Qi (fun (r0 : Int32) (u : Int) => r0 = iv u ∧ (u = (if a < b then -1 else if a = b then 0 else 1))) (fun u => jEnd (dC, dI) (jT cI cZ cG cR) (va_A (wE cI cZ cG cR) sz) (wE cI cZ cG cR)) (va_A (wE cI cZ cG cR) sz)) 0 0 (va_A (wE cI cZ cG cR) sz) := by
  refine jv_mi (cc := cJ_compare) (maxL := 2) (by decide) rfl (Nat.le_of_ble_eq_true rfl) ?_
  intro p0 e0 s0 m0 a0 b0 t0 c0 R0 Q0 A0 ls gX gB hts hown hml hRf hRl hA hK hret hl hP hD hS
  have hown : s0.vm.findClass "java/lang/Integer" = some m0.cls := hown
  have hw0 : ∀ w ∈ WS0, w.before a0 s0 = true := fun w h => hts w (List.mem_cons_of_mem _ h)
  have hl : lv_has ls 2 [(0, .int (iv a)), (1, .int (iv b))] := hl
  have hRf : 0 ≤ R0.frames := hRf
  have hRl : 0 ≤ R0.locals := hRl
  refine lv_iload_n (pc := 0) gX gB dJ_compare_0 rfl (lv_at hl 0 rfl) ?_
  refine lv_iload_n (pc := 1) gX gB dJ_compare_1 rfl (lv_at hl 1 rfl) ?_
  refine jv_icmp_ge (pc := 2) (tgt := 9) gX gB dJ_compare_2 (by decide) (by omega) (by omega) (fun h1 => ?_) (fun h1 => ?_)
  · skip
    refine lv_iload_n (pc := 9) gX gB dJ_compare_9 rfl (lv_at hl 0 rfl) ?_
    refine lv_iload_n (pc := 10) gX gB dJ_compare_10 rfl (lv_at hl 1 rfl) ?_
    refine jv_icmp_ne (pc := 11) (tgt := 18) gX gB dJ_compare_11 (by decide) (by omega) (by omega) (fun h2 => ?_) (fun h2 => ?_)
    · skip
      refine lv_iconst (pc := 18) (v := iv 1) gX gB dJ_compare_18 rfl ?_
      exact hret _ (1) dJ_compare_19 ⟨rfl, by first | (rw [if_pos (by omega)]) | (rw [if_neg (by omega), if_pos (by omega)]) | (rw [if_neg (by omega), if_neg (by omega)])⟩ hP hD hS
    refine lv_iconst (pc := 14) (v := iv 0) gX gB dJ_compare_14 rfl ?_
    refine lv_goto (pc := 15) (tgt := 19) gX gB dJ_compare_15 (by decide) ?_
    exact hret _ (0) dJ_compare_19 ⟨rfl, by first | (rw [if_pos (by omega)]) | (rw [if_neg (by omega), if_pos (by omega)]) | (rw [if_neg (by omega), if_neg (by omega)])⟩ hP hD hS
  refine lv_iconst (pc := 5) (v := iv (-1)) gX gB dJ_compare_5 rfl ?_
  refine lv_goto (pc := 6) (tgt := 19) gX gB dJ_compare_6 (by decide) ?_
  exact hret _ ((-1)) dJ_compare_19 ⟨rfl, by first | (rw [if_pos (by omega)]) | (rw [if_neg (by omega), if_pos (by omega)]) | (rw [if_neg (by omega), if_neg (by omega)])⟩ hP hD hS
set_option maxRecDepth 100000 in
set_option maxHeartbeats 1000000 in
theorem c_R_size (l : Launch) (dC : Nat → ClassId) (dI : Nat → Nat → Nat) (cI : ClassId) (cZ : ClassId) (cG : ClassId) (cR : ClassId) (xa : Nat) (xi : Nat) (xn : Nat) (xs : Int) (xf : Int → Int) (sz : Nat) : Met l yR_size wsR_size ({ frames := 0, cells := 0, slots := 0, locals := 0 }) (va_Pc [.ref xa] (jPre (dC, dI) (jT cI cZ cG cR) (wR cI cZ cG cR xa xi xn xs xf) sz)) (va_Qi (fun (r0 : Int32) (u : Int) => r0 = iv u ∧ (u = xs)) (fun u => jEnd (dC, dI) (jT cI cZ cG cR) (va_A (wR cI cZ cG cR xa xi xn xs xf) sz) (wR cI cZ cG cR xa xi xn xs xf)) (va_A (wR cI cZ cG cR xa xi xn xs xf) sz)) 0 0 (va_A (wR cI cZ cG cR xa xi xn xs xf) sz) := by
  refine jv_mi (cc := cR_size) (maxL := 1) (by decide) rfl (Nat.le_of_ble_eq_true rfl) ?_
  intro p0 e0 s0 m0 a0 b0 t0 c0 R0 Q0 A0 ls gX gB hts hown hml hRf hRl hA hK hret hl hP hD hS
  have hown : s0.vm.findClass "TextPipeline$Row" = some m0.cls := hown
  have hw0 : ∀ w ∈ WS0, w.before a0 s0 = true := fun w h => hts w (List.mem_cons_of_mem _ h)
  have hl : lv_has ls 1 [(0, .ref xa)] := hl
  have hRf : 0 ≤ R0.frames := hRf
  have hRl : 0 ≤ R0.locals := hRl
  refine lv_aload_n (pc := 0) gX gB dR_size_0 rfl (lv_at hl 0 rfl) ?_
  refine va_get (pc := 1) (D := (dC, dI)) (ci := 2) (v := .int (iv xs)) (C := RR) (T := TR) (N := 2) gX gB hw0 inR hown hK hP 0 rfl rfl 1 (by decide) (hw0 _ q95) (fun _ h9 => h9) rfl dR_size_1 ?_
  exact hret _ (xs) dR_size_4 ⟨rfl, by rfl⟩ hP hD hS
set_option maxRecDepth 100000 in
set_option maxHeartbeats 1000000 in
theorem c_R_item (l : Launch) (dC : Nat → ClassId) (dI : Nat → Nat → Nat) (cI : ClassId) (cZ : ClassId) (cG : ClassId) (cR : ClassId) (xa : Nat) (xi : Nat) (xn : Nat) (xs : Int) (xf : Int → Int) (sz : Nat) (i : Int) (hcap : xn < 1000) (hi : 0 ≤ i ∧ i < (xn : Int)) : Met l yR_item wsR_item ({ frames := 0, cells := 0, slots := 0, locals := 0 }) (va_Pc [.ref xa, .int (iv i)] (jPre (dC, dI) (jT cI cZ cG cR) (wR cI cZ cG cR xa xi xn xs xf) sz)) (va_Qi (fun (r0 : Int32) (u : Int) => r0 = iv u ∧ (u = xf i)) (fun u => jEnd (dC, dI) (jT cI cZ cG cR) (va_A (wR cI cZ cG cR xa xi xn xs xf) sz) (wR cI cZ cG cR xa xi xn xs xf)) (va_A (wR cI cZ cG cR xa xi xn xs xf) sz)) 0 0 (va_A (wR cI cZ cG cR xa xi xn xs xf) sz) := by
  refine jv_mi (cc := cR_item) (maxL := 2) (by decide) rfl (Nat.le_of_ble_eq_true rfl) ?_
  intro p0 e0 s0 m0 a0 b0 t0 c0 R0 Q0 A0 ls gX gB hts hown hml hRf hRl hA hK hret hl hP hD hS
  have hown : s0.vm.findClass "TextPipeline$Row" = some m0.cls := hown
  have hw0 : ∀ w ∈ WS0, w.before a0 s0 = true := fun w h => hts w (List.mem_cons_of_mem _ h)
  have hl : lv_has ls 2 [(0, .ref xa), (1, .int (iv i))] := hl
  have hRf : 0 ≤ R0.frames := hRf
  have hRl : 0 ≤ R0.locals := hRl
  refine lv_aload_n (pc := 0) gX gB dR_item_0 rfl (lv_at hl 0 rfl) ?_
  refine va_get (pc := 1) (D := (dC, dI)) (ci := 2) (v := .ref xi) (C := RR) (T := TR) (N := 2) gX gB hw0 inR hown hK hP 0 rfl rfl 0 (by decide) (hw0 _ q94) (fun _ h9 => h9) rfl dR_item_1 ?_
  refine lv_iload_n (pc := 4) gX gB dR_item_4 rfl (lv_at hl 1 rfl) ?_
  refine jv_iald (pc := 5) gX gB hK hP 1 0 rfl rfl (by omega) (by omega) dR_item_5 ?_
  exact hret _ (xf i) dR_item_6 ⟨rfl, by rfl⟩ hP hD hS
set_option maxRecDepth 100000 in
set_option maxHeartbeats 1000000 in
theorem c_R_put (l : Launch) (dC : Nat → ClassId) (dI : Nat → Nat → Nat) (cI : ClassId) (cZ : ClassId) (cG : ClassId) (cR : ClassId) (xa : Nat) (xi : Nat) (xn : Nat) (xs : Int) (xf : Int → Int) (sz : Nat) (i : Int) (v : Int) (hcap : xn < 1000) (hi : 0 ≤ i ∧ i < (xn : Int)) : Met l yR_put wsR_put ({ frames := 0, cells := 0, slots := 0, locals := 0 }) (va_Pc [.ref xa, .int (iv i), .int (iv v)] (jPre (dC, dI) (jT cI cZ cG cR) (wR cI cZ cG cR xa xi xn xs xf) sz)) (va_Qv (fun u : (Int → Int) => u = uI xf i v) (fun u => jEnd (dC, dI) (jT cI cZ cG cR) (va_A (wR cI cZ cG cR xa xi xn xs xf) sz) (wR cI cZ cG cR xa xi xn xs u)) (va_A (wR cI cZ cG cR xa xi xn xs xf) sz)) 0 0 (va_A (wR cI cZ cG cR xa xi xn xs xf) sz) := by
  refine jv_mv (cc := cR_put) (maxL := 3) (by decide) rfl (Nat.le_of_ble_eq_true rfl) ?_
  intro p0 e0 s0 m0 a0 b0 t0 c0 R0 Q0 A0 ls gX gB hts hown hml hRf hRl hA hK hret hl hP hD hS
  have hown : s0.vm.findClass "TextPipeline$Row" = some m0.cls := hown
  have hw0 : ∀ w ∈ WS0, w.before a0 s0 = true := fun w h => hts w (List.mem_cons_of_mem _ h)
  have hl : lv_has ls 3 [(0, .ref xa), (1, .int (iv i)), (2, .int (iv v))] := hl
  have hRf : 0 ≤ R0.frames := hRf
  have hRl : 0 ≤ R0.locals := hRl
  refine lv_aload_n (pc := 0) gX gB dR_put_0 rfl (lv_at hl 0 rfl) ?_
  refine va_get (pc := 1) (D := (dC, dI)) (ci := 2) (v := .ref xi) (C := RR) (T := TR) (N := 2) gX gB hw0 inR hown hK hP 0 rfl rfl 0 (by decide) (hw0 _ q94) (fun _ h9 => h9) rfl dR_put_1 ?_
  refine lv_iload_n (pc := 4) gX gB dR_put_4 rfl (lv_at hl 1 rfl) ?_
  refine lv_iload_n (pc := 5) gX gB dR_put_5 rfl (lv_at hl 2 rfl) ?_
  refine jv_iast (pc := 6) (ws' := (wR cI cZ cG cR xa xi xn xs (uI xf i v))) gX gB hK hP hD hS 1 0 rfl rfl (by omega) (by omega) dR_put_6 rfl (fun H locs hP hD hS => ?_)
  exact hret ((uI xf i v)) dR_put_7 (by rfl) hP hD hS
set_option maxRecDepth 100000 in
set_option maxHeartbeats 1000000 in
theorem c_R_insert (l : Launch) (dC : Nat → ClassId) (dI : Nat → Nat → Nat) (cI : ClassId) (cZ : ClassId) (cG : ClassId) (cR : ClassId) (xa : Nat) (xi : Nat) (xn : Nat) (xs : Int) (xf : Int → Int) (sz : Nat) (pl : Int) (v : Int) (hcap : xn < 1000) (hsz : 0 ≤ xs ∧ xs < (xn : Int)) (hpl : 0 ≤ pl ∧ pl ≤ xs) : Met l yR_insert wsR_insert ({ frames := 0, cells := 0, slots := 0, locals := 0 }) (va_Pc [.ref xa, .int (iv pl), .int (iv v)] (jPre (dC, dI) (jT cI cZ cG cR) (wR cI cZ cG cR xa xi xn xs xf) sz)) (va_Qv (fun u : Int × (Int → Int) => u.1 = xs + 1 ∧ (∀ j, j < pl → u.2 j = xf j) ∧ u.2 pl = v ∧ (∀ j, pl < j → j ≤ xs → u.2 j = xf (j - 1))) (fun u => jEnd (dC, dI) (jT cI cZ cG cR) (va_A (wR cI cZ cG cR xa xi xn xs xf) sz) (wR cI cZ cG cR xa xi xn u.1 u.2)) (va_A (wR cI cZ cG cR xa xi xn xs xf) sz)) 0 0 (va_A (wR cI cZ cG cR xa xi xn xs xf) sz) := by
  refine jv_mv (cc := cR_insert) (maxL := 4) (by decide) rfl (Nat.le_of_ble_eq_true rfl) ?_
  intro p0 e0 s0 m0 a0 b0 t0 c0 R0 Q0 A0 ls gX gB hts hown hml hRf hRl hA hK hret hl hP hD hS
  have hown : s0.vm.findClass "TextPipeline$Row" = some m0.cls := hown
  have hw0 : ∀ w ∈ WS0, w.before a0 s0 = true := fun w h => hts w (List.mem_cons_of_mem _ h)
  have hl : lv_has ls 4 [(0, .ref xa), (1, .int (iv pl)), (2, .int (iv v))] := hl
  have hRf : 0 ≤ R0.frames := hRf
  have hRl : 0 ≤ R0.locals := hRl
  refine lv_aload_n (pc := 0) gX gB dR_insert_0 rfl (lv_at hl 0 rfl) ?_
  refine va_get (pc := 1) (D := (dC, dI)) (ci := 2) (v := .int (iv xs)) (C := RR) (T := TR) (N := 2) gX gB hw0 inR hown hK hP 0 rfl rfl 1 (by decide) (hw0 _ q95) (fun _ h9 => h9) rfl dR_insert_1 ?_
  refine lv_aload_n (pc := 4) gX gB dR_insert_4 rfl (lv_at hl 0 rfl) ?_
  refine va_get (pc := 5) (D := (dC, dI)) (ci := 2) (v := .ref xi) (C := RR) (T := TR) (N := 2) gX gB hw0 inR hown hK hP 0 rfl rfl 0 (by decide) (hw0 _ q94) (fun _ h9 => h9) rfl dR_insert_5 ?_
  refine jv_alen (pc := 8) gX gB hK hP 1 0 rfl rfl dR_insert_8 ?_
  refine jv_icmp_ge (pc := 9) (tgt := 24) gX gB dR_insert_9 (by decide) (by omega) (by omega) (fun h1 => ?_) (fun h1 => ?_)
  · exfalso; omega
  refine lv_iload_n (pc := 12) gX gB dR_insert_12 rfl (lv_at hl 1 rfl) ?_
  refine jv_if_lt (pc := 13) (tgt := 24) gX gB dR_insert_13 (by decide) (by omega) (fun h2 => ?_) (fun h2 => ?_)
  · exfalso; omega
  refine lv_iload_n (pc := 16) gX gB dR_insert_16 rfl (lv_at hl 1 rfl) ?_
  refine lv_aload_n (pc := 17) gX gB dR_insert_17 rfl (lv_at hl 0 rfl) ?_
  refine va_get (pc := 18) (D := (dC, dI)) (ci := 2) (v := .int (iv xs)) (C := RR) (T := TR) (N := 2) gX gB hw0 inR hown hK hP 0 rfl rfl 1 (by decide) (hw0 _ q95) (fun _ h9 => h9) rfl dR_insert_18 ?_
  refine jv_icmp_le (pc := 21) (tgt := 25) gX gB dR_insert_21 (by decide) (by omega) (by omega) (fun h3 => ?_) (fun h3 => ?_)
  rotate_left
  · exfalso; omega
  refine lv_aload_n (pc := 25) gX gB dR_insert_25 rfl (lv_at hl 0 rfl) ?_
  refine va_get (pc := 26) (D := (dC, dI)) (ci := 2) (v := .int (iv xs)) (C := RR) (T := TR) (N := 2) gX gB hw0 inR hown hK hP 0 rfl rfl 1 (by decide) (hw0 _ q95) (fun _ h9 => h9) rfl dR_insert_26 ?_
  refine lv_istore_n (pc := 29) (lv' := [(3, .int (iv xs)), (0, .ref xa), (1, .int (iv pl)), (2, .int (iv v))]) gX gB dR_insert_29 rfl hl (by decide) rfl (fun ls hl => ?_)
  have cut30 : ∀ (n0 : Nat) (i : Int) (g : Int → Int) (ls : Array Slot) (H : Heap) (locs : List Loc), (pl ≤ i ∧ i ≤ xs) → (∀ j, j ≤ i → g j = xf j) → (∀ j, i < j → j ≤ xs → g j = xf (j - 1)) → ((i - pl : Int).toNat < n0) → lv_has ls 4 [(0, .ref xa), (1, .int (iv pl)), (2, .int (iv v)), (3, .int (iv i))] → va_P (dC, dI) vwCl (wR cI cZ cG cR xa xi xn xs g) H → va_D A0 (wR cI cZ cG cR xa xi xn xs g) → va_S A0 s0.heap H locs → W p0 l e0 R0 s0 m0 a0 b0 t0 c0 H locs 0 0 Q0 (F0 m0 30 ls []) := by
    intro n0
    induction n0 with
    | zero => intro i g ls H locs hi hlo hhi hm hl hP hD hS; exact absurd hm (Nat.not_lt_zero _)
    | succ n0 ih30 =>
      intro i g ls H locs hi hlo hhi hm30 hl hP hD hS
      refine lv_iload_n (pc := 30) gX gB dR_insert_30 rfl (lv_at hl 3 rfl) ?_
      refine lv_iload_n (pc := 31) gX gB dR_insert_31 rfl (lv_at hl 1 rfl) ?_
      refine jv_icmp_le (pc := 32) (tgt := 55) gX gB dR_insert_32 (by decide) (by omega) (by omega) (fun h4 => ?_) (fun h4 => ?_)
      · skip
        refine lv_aload_n (pc := 55) gX gB dR_insert_55 rfl (lv_at hl 0 rfl) ?_
        refine va_get (pc := 56) (D := (dC, dI)) (ci := 2) (v := .ref xi) (C := RR) (T := TR) (N := 2) gX gB hw0 inR hown hK hP 0 rfl rfl 0 (by decide) (hw0 _ q94) (fun _ h9 => h9) rfl dR_insert_56 ?_
        refine lv_iload_n (pc := 59) gX gB dR_insert_59 rfl (lv_at hl 1 rfl) ?_
        refine lv_iload_n (pc := 60) gX gB dR_insert_60 rfl (lv_at hl 2 rfl) ?_
        refine jv_iast (pc := 61) (ws' := (wR cI cZ cG cR xa xi xn xs (uI g pl v))) gX gB hK hP hD hS 1 0 rfl rfl (by omega) (by omega) dR_insert_61 rfl (fun H locs hP hD hS => ?_)
        refine lv_aload_n (pc := 62) gX gB dR_insert_62 rfl (lv_at hl 0 rfl) ?_
        refine lv_dup (pc := 63) gX gB dR_insert_63 rfl ?_
        refine va_get (pc := 64) (D := (dC, dI)) (ci := 2) (v := .int (iv xs)) (C := RR) (T := TR) (N := 2) gX gB hw0 inR hown hK hP 0 rfl rfl 1 (by decide) (hw0 _ q95) (fun _ h9 => h9) rfl dR_insert_64 ?_
        refine lv_iconst (pc := 67) (v := iv 1) gX gB dR_insert_67 rfl ?_
        refine jv_iadd (pc := 68) (x := xs) (y := 1) gX gB dR_insert_68 ?_
        refine jv_put (pc := 69) (D := (dC, dI)) (ci := 2) (v := .int (iv (xs + 1))) (ty := .int) (C := RR) (T := TR) (N := 2) (ws' := (wR cI cZ cG cR xa xi xn (xs + 1) (uI g pl v))) gX gB hw0 inR tyR tyR_ok nmR hown hK hP hD hS 0 rfl rfl 1 (by decide) (hw0 _ q95) (fun _ h9 => h9) rfl (by decide +kernel) rfl rfl (Nat.le_of_ble_eq_true rfl) dR_insert_69 rfl (fun H locs hP hD hS => ?_)
        exact hret (xs + 1, (uI g pl v)) dR_insert_72 (by first | (dsimp only; exact ⟨rfl, fun j a => by rw [uI_n (by omega)]; exact hlo j (by omega), uI_s, fun j a b => by rw [uI_n (by omega)]; exact hhi j (by omega) b⟩) | (exact ⟨rfl, fun j a => by rw [uI_n (by omega)]; exact hlo j (by omega), uI_s, fun j a b => by rw [uI_n (by omega)]; exact hhi j (by omega) b⟩)) hP hD hS
      refine lv_aload_n (pc := 35) gX gB dR_insert_35 rfl (lv_at hl 0 rfl) ?_
      refine va_get (pc := 36) (D := (dC, dI)) (ci := 2) (v := .ref xi) (C := RR) (T := TR) (N := 2) gX gB hw0 inR hown hK hP 0 rfl rfl 0 (by decide) (hw0 _ q94) (fun _ h9 => h9) rfl dR_insert_36 ?_
      refine lv_iload_n (pc := 39) gX gB dR_insert_39 rfl (lv_at hl 3 rfl) ?_
      refine lv_aload_n (pc := 40) gX gB dR_insert_40 rfl (lv_at hl 0 rfl) ?_
      refine va_get (pc := 41) (D := (dC, dI)) (ci := 2) (v := .ref xi) (C := RR) (T := TR) (N := 2) gX gB hw0 inR hown hK hP 0 rfl rfl 0 (by decide) (hw0 _ q94) (fun _ h9 => h9) rfl dR_insert_41 ?_
      refine lv_iload_n (pc := 44) gX gB dR_insert_44 rfl (lv_at hl 3 rfl) ?_
      refine lv_iconst (pc := 45) (v := iv 1) gX gB dR_insert_45 rfl ?_
      refine jv_isub (pc := 46) (x := i) (y := 1) gX gB dR_insert_46 ?_
      refine jv_iald (pc := 47) gX gB hK hP 1 0 rfl rfl (by omega) (by omega) dR_insert_47 ?_
      refine jv_iast (pc := 48) (ws' := (wR cI cZ cG cR xa xi xn xs (uI g i (g (i - 1))))) gX gB hK hP hD hS 1 0 rfl rfl (by omega) (by omega) dR_insert_48 rfl (fun H locs hP hD hS => ?_)
      refine jv_idec (pc := 49) (k := 3) (x := i) (n := (-1)) (d := 1) (lv' := [(3, .int (iv (i - 1))), (0, .ref xa), (1, .int (iv pl)), (2, .int (iv v))]) gX gB dR_insert_49 (by decide) hl rfl (by decide) rfl (fun ls hl => ?_)
      refine lv_goto (pc := 52) (tgt := 30) gX gB dR_insert_52 (by decide) ?_
      exact ih30 (i - 1) (uI g i (g (i - 1))) _ _ _ (by omega) (by intro j a; rw [uI_n (by omega)]; exact hlo j (by omega)) (by intro j a b; by_cases e : j = i; (rw [uI_e e, e]; exact hlo (i - 1) (by omega)); (rw [uI_n e]; exact hhi j (by omega) b)) (by omega) (lv_sub hl [1, 2, 3, 0] rfl) hP hD hS
  exact cut30 (((xs - pl : Int).toNat) + 1) xs xf _ _ _ (by omega) (by intro j _; rfl) (by intro j a b; omega) (Nat.lt_succ_self _) (lv_sub hl [1, 2, 3, 0] rfl) hP hD hS
set_option maxRecDepth 100000 in
set_option maxHeartbeats 1000000 in
theorem c_R_add (l : Launch) (dC : Nat → ClassId) (dI : Nat → Nat → Nat) (cI : ClassId) (cZ : ClassId) (cG : ClassId) (cR : ClassId) (xa : Nat) (xi : Nat) (xn : Nat) (xs : Int) (xf : Int → Int) (sz : Nat) (v : Int) (hcap : xn < 1000) (hsz : 0 ≤ xs ∧ xs < (xn : Int)) : Met l yR_add wsR_add ({ frames := 1, cells := 0, slots := 0, locals := 23 }) (va_Pc [.ref xa, .int (iv v)] (jPre (dC, dI) (jT cI cZ cG cR) (wR cI cZ cG cR xa xi xn xs xf) sz)) (va_Qv (fun u : Int × (Int → Int) => u.1 = xs + 1 ∧ rsg u.2 u.1.toNat = v :: rsg xf xs.toNat) (fun u => jEnd (dC, dI) (jT cI cZ cG cR) (va_A (wR cI cZ cG cR xa xi xn xs xf) sz) (wR cI cZ cG cR xa xi xn u.1 u.2)) (va_A (wR cI cZ cG cR xa xi xn xs xf) sz)) 0 0 (va_A (wR cI cZ cG cR xa xi xn xs xf) sz) := by
  refine jv_mv (cc := cR_add) (maxL := 2) (by decide) rfl (Nat.le_of_ble_eq_true rfl) ?_
  intro p0 e0 s0 m0 a0 b0 t0 c0 R0 Q0 A0 ls gX gB hts hown hml hRf hRl hA hK hret hl hP hD hS
  have hown : s0.vm.findClass "TextPipeline$Row" = some m0.cls := hown
  have hw0 : ∀ w ∈ WS0, w.before a0 s0 = true := fun w h => hts w (List.mem_cons_of_mem _ h)
  have hl : lv_has ls 2 [(0, .ref xa), (1, .int (iv v))] := hl
  have hRf : 1 ≤ R0.frames := hRf
  have hRl : 23 ≤ R0.locals := hRl
  refine lv_aload_n (pc := 0) gX gB dR_add_0 rfl (lv_at hl 0 rfl) ?_
  refine lv_aload_n (pc := 1) gX gB dR_add_1 rfl (lv_at hl 0 rfl) ?_
  refine va_get (pc := 2) (D := (dC, dI)) (ci := 2) (v := .int (iv xs)) (C := RR) (T := TR) (N := 2) gX gB hw0 inR hown hK hP 0 rfl rfl 1 (by decide) (hw0 _ q95) (fun _ h9 => h9) rfl dR_add_2 ?_
  refine lv_iload_n (pc := 5) gX gB dR_add_5 rfl (lv_at hl 1 rfl) ?_
  refine jv_rv (pc := 6) (wr := []) (wn := fun u : Int × (Int → Int) => (wR cI cZ cG cR xa xi xn u.1 u.2)) (va_runV (rest := []) ⟨gX, gB, hml, hown, hw0⟩ (c_R_insert l dC dI cI cZ cG cR xa xi xn xs xf _ xs v (by omega) (by omega) (by omega)) (jcV hw0 kR_insert q259 rfl rfl ⟨Nat.le_trans (Nat.le_of_ble_eq_true rfl) hRf, Nat.le_trans (Nat.le_of_ble_eq_true rfl) hRl⟩) (jv_preV (ci := 2) (q0 := 0) hK hP hD [0, 1] rfl (by decide) rfl rfl) rfl rfl hl.1 rfl (lv_room (Nat.le_of_ble_eq_true rfl)) dR_add_6 ⟨Nat.zero_le _, Nat.zero_le _⟩) hP hD hS hA [0, 1] [] [0, 1] rfl rfl (by decide) (by decide) (by decide) (fun _ => rfl) (fun u H locs hw6 hP hD hS => ?_)
  obtain ⟨xs_6, xf_6⟩ := u
  dsimp only at hw6 hP hD
  exact hret (xs_6, xf_6) dR_add_9 (by first | (dsimp only; obtain ⟨z1, z2, z3, z4⟩ := hw6; refine ⟨z1, ?_⟩; rw [z1, rsg_pop (by omega), show xs + 1 - 1 = xs by omega, z3]; congr 1; exact rsg_congr _ (fun j a b => z2 j (by omega))) | (obtain ⟨z1, z2, z3, z4⟩ := hw6; refine ⟨z1, ?_⟩; rw [z1, rsg_pop (by omega), show xs + 1 - 1 = xs by omega, z3]; congr 1; exact rsg_congr _ (fun j a b => z2 j (by omega)))) hP hD hS
set_option maxRecDepth 100000 in
set_option maxHeartbeats 1000000 in
theorem c_R_cutTo (l : Launch) (dC : Nat → ClassId) (dI : Nat → Nat → Nat) (cI : ClassId) (cZ : ClassId) (cG : ClassId) (cR : ClassId) (xa : Nat) (xi : Nat) (xn : Nat) (xs : Int) (xf : Int → Int) (sz : Nat) (n : Int) (hsz : -2147483648 ≤ xs ∧ xs < 2147483648) (hn9 : -2147483648 ≤ n ∧ n < 2147483648) : Met l yR_cutTo wsR_cutTo ({ frames := 1, cells := 0, slots := 0, locals := 21 }) (va_Pc [.ref xa, .int (iv n)] (jPre (dC, dI) (jT cI cZ cG cR) (wR cI cZ cG cR xa xi xn xs xf) sz)) (va_Qv (fun u : Int => u = min xs (max n 0)) (fun u => jEnd (dC, dI) (jT cI cZ cG cR) (va_A (wR cI cZ cG cR xa xi xn xs xf) sz) (wR cI cZ cG cR xa xi xn u xf)) (va_A (wR cI cZ cG cR xa xi xn xs xf) sz)) 0 0 (va_A (wR cI cZ cG cR xa xi xn xs xf) sz) := by
  refine jv_mv (cc := cR_cutTo) (maxL := 2) (by decide) rfl (Nat.le_of_ble_eq_true rfl) ?_
  intro p0 e0 s0 m0 a0 b0 t0 c0 R0 Q0 A0 ls gX gB hts hown hml hRf hRl hA hK hret hl hP hD hS
  have hown : s0.vm.findClass "TextPipeline$Row" = some m0.cls := hown
  have hw0 : ∀ w ∈ WS0, w.before a0 s0 = true := fun w h => hts w (List.mem_cons_of_mem _ h)
  have hl : lv_has ls 2 [(0, .ref xa), (1, .int (iv n))] := hl
  have hRf : 1 ≤ R0.frames := hRf
  have hRl : 21 ≤ R0.locals := hRl
  refine lv_aload_n (pc := 0) gX gB dR_cutTo_0 rfl (lv_at hl 0 rfl) ?_
  refine lv_aload_n (pc := 1) gX gB dR_cutTo_1 rfl (lv_at hl 0 rfl) ?_
  refine va_get (pc := 2) (D := (dC, dI)) (ci := 2) (v := .int (iv xs)) (C := RR) (T := TR) (N := 2) gX gB hw0 inR hown hK hP 0 rfl rfl 1 (by decide) (hw0 _ q95) (fun _ h9 => h9) rfl dR_cutTo_2 ?_
  refine lv_iload_n (pc := 5) gX gB dR_cutTo_5 rfl (lv_at hl 1 rfl) ?_
  refine lv_iconst (pc := 6) (v := iv 0) gX gB dR_cutTo_6 rfl ?_
  refine jv_mmax (pc := 7) (x := n) (y := 0) (rest := [.int (iv xs), .ref xa]) gX gB (hml.trans hl.1.symm) hown hw0 q164 (Nat.le_trans (Nat.le_of_ble_eq_true rfl) hRf) (Nat.le_trans (Nat.le_of_ble_eq_true rfl) hRl) (Nat.zero_le _) (Nat.zero_le _) (by omega) (by omega) dR_cutTo_7 ?_
  refine jv_mmin (pc := 10) (x := xs) (y := max n 0) (rest := [.ref xa]) gX gB (hml.trans hl.1.symm) hown hw0 q167 (Nat.le_trans (Nat.le_of_ble_eq_true rfl) hRf) (Nat.le_trans (Nat.le_of_ble_eq_true rfl) hRl) (Nat.zero_le _) (Nat.zero_le _) (by omega) (by omega) dR_cutTo_10 ?_
  refine jv_put (pc := 13) (D := (dC, dI)) (ci := 2) (v := .int (iv (min xs (max n 0)))) (ty := .int) (C := RR) (T := TR) (N := 2) (ws' := (wR cI cZ cG cR xa xi xn (min xs (max n 0)) xf)) gX gB hw0 inR tyR tyR_ok nmR hown hK hP hD hS 0 rfl rfl 1 (by decide) (hw0 _ q95) (fun _ h9 => h9) rfl (by decide +kernel) rfl rfl (Nat.le_of_ble_eq_true rfl) dR_cutTo_13 rfl (fun H locs hP hD hS => ?_)
  exact hret (min xs (max n 0)) dR_cutTo_16 (by rfl) hP hD hS
set_option maxRecDepth 100000 in
set_option maxHeartbeats 1000000 in
theorem c_R_copyOf (l : Launch) (dC : Nat → ClassId) (dI : Nat → Nat → Nat) (cI : ClassId) (cZ : ClassId) (cG : ClassId) (cR : ClassId) (xa : Nat) (xi : Nat) (xn : Nat) (xs : Int) (xf : Int → Int) (ya : Nat) (yi : Nat) (yn : Nat) (ys : Int) (yf : Int → Int) (sz : Nat) (hcap : xn < 1000) (hcy : yn < 1000) (hsy : 0 ≤ ys ∧ ys ≤ (yn : Int) ∧ ys ≤ (xn : Int)) : Met l yR_copyOf wsR_copyOf ({ frames := 1, cells := 0, slots := 0, locals := 21 }) (va_Pc [.ref xa, .ref ya] (jPre (dC, dI) (jT cI cZ cG cR) (wRR cI cZ cG cR xa xi xn xs xf ya yi yn ys yf) sz)) (va_Qv (fun u : Int × (Int → Int) => u.1 = ys ∧ (∀ j, 0 ≤ j → j < ys → u.2 j = yf j)) (fun u => jEnd (dC, dI) (jT cI cZ cG cR) (va_A (wRR cI cZ cG cR xa xi xn xs xf ya yi yn ys yf) sz) (wRR cI cZ cG cR xa xi xn u.1 u.2 ya yi yn ys yf)) (va_A (wRR cI cZ cG cR xa xi xn xs xf ya yi yn ys yf) sz)) 0 0 (va_A (wRR cI cZ cG cR xa xi xn xs xf ya yi yn ys yf) sz) := by
  refine jv_mv (cc := cR_copyOf) (maxL := 4) (by decide) rfl (Nat.le_of_ble_eq_true rfl) ?_
  intro p0 e0 s0 m0 a0 b0 t0 c0 R0 Q0 A0 ls gX gB hts hown hml hRf hRl hA hK hret hl hP hD hS
  have hown : s0.vm.findClass "TextPipeline$Row" = some m0.cls := hown
  have hw0 : ∀ w ∈ WS0, w.before a0 s0 = true := fun w h => hts w (List.mem_cons_of_mem _ h)
  have hl : lv_has ls 4 [(0, .ref xa), (1, .ref ya)] := hl
  have hRf : 1 ≤ R0.frames := hRf
  have hRl : 21 ≤ R0.locals := hRl
  refine lv_aload_n (pc := 0) gX gB dR_copyOf_0 rfl (lv_at hl 1 rfl) ?_
  refine va_get (pc := 1) (D := (dC, dI)) (ci := 2) (v := .int (iv ys)) (C := RR) (T := TR) (N := 2) gX gB hw0 inR hown hK hP 2 rfl rfl 1 (by decide) (hw0 _ q95) (fun _ h9 => h9) rfl dR_copyOf_1 ?_
  refine lv_aload_n (pc := 4) gX gB dR_copyOf_4 rfl (lv_at hl 0 rfl) ?_
  refine va_get (pc := 5) (D := (dC, dI)) (ci := 2) (v := .ref xi) (C := RR) (T := TR) (N := 2) gX gB hw0 inR hown hK hP 0 rfl rfl 0 (by decide) (hw0 _ q94) (fun _ h9 => h9) rfl dR_copyOf_5 ?_
  refine jv_alen (pc := 8) gX gB hK hP 1 0 rfl rfl dR_copyOf_8 ?_
  refine jv_mmin (pc := 9) (x := ys) (y := (xn : Int)) (rest := []) gX gB (hml.trans hl.1.symm) hown hw0 q167 (Nat.le_trans (Nat.le_of_ble_eq_true rfl) hRf) (Nat.le_trans (Nat.le_of_ble_eq_true rfl) hRl) (Nat.zero_le _) (Nat.zero_le _) (by omega) (by omega) dR_copyOf_9 ?_
  refine lv_istore_n (pc := 12) (lv' := [(2, .int (iv (min ys (xn : Int)))), (0, .ref xa), (1, .ref ya)]) gX gB dR_copyOf_12 rfl hl (by decide) rfl (fun ls hl => ?_)
  refine lv_iconst (pc := 13) (v := iv 0) gX gB dR_copyOf_13 rfl ?_
  refine lv_istore_n (pc := 14) (lv' := [(3, .int (iv 0)), (2, .int (iv (min ys (xn : Int)))), (0, .ref xa), (1, .ref ya)]) gX gB dR_copyOf_14 rfl hl (by decide) rfl (fun ls hl => ?_)
  have cut15 : ∀ (n0 : Nat) (i : Int) (g : Int → Int) (ls : Array Slot) (H : Heap) (locs : List Loc), (0 ≤ i ∧ i ≤ ys) → (∀ j, 0 ≤ j → j < i → g j = yf j) → ((ys - i : Int).toNat < n0) → lv_has ls 4 [(0, .ref xa), (1, .ref ya), (2, .int (iv (min ys (xn : Int)))), (3, .int (iv i))] → va_P (dC, dI) vwCl (wRR cI cZ cG cR xa xi xn xs g ya yi yn ys yf) H → va_D A0 (wRR cI cZ cG cR xa xi xn xs g ya yi yn ys yf) → va_S A0 s0.heap H locs → W p0 l e0 R0 s0 m0 a0 b0 t0 c0 H locs 0 0 Q0 (F0 m0 15 ls []) := by
    intro n0
    induction n0 with
    | zero => intro i g ls H locs hi hg hm hl hP hD hS; exact absurd hm (Nat.not_lt_zero _)
    | succ n0 ih15 =>
      intro i g ls H locs hi hg hm15 hl hP hD hS
      have hmn : min ys (xn : Int) = ys := by omega
      refine lv_iload_n (pc := 15) gX gB dR_copyOf_15 rfl (lv_at hl 3 rfl) ?_
      refine lv_iload_n (pc := 16) gX gB dR_copyOf_16 rfl (lv_at hl 2 rfl) ?_
      refine jv_icmp_ge (pc := 17) (tgt := 38) gX gB dR_copyOf_17 (by decide) (by omega) (by omega) (fun h1 => ?_) (fun h1 => ?_)
      · skip
        refine lv_aload_n (pc := 38) gX gB dR_copyOf_38 rfl (lv_at hl 0 rfl) ?_
        refine lv_iload_n (pc := 39) gX gB dR_copyOf_39 rfl (lv_at hl 2 rfl) ?_
        refine jv_put (pc := 40) (D := (dC, dI)) (ci := 2) (v := .int (iv (min ys (xn : Int)))) (ty := .int) (C := RR) (T := TR) (N := 2) (ws' := (wRR cI cZ cG cR xa xi xn (min ys (xn : Int)) g ya yi yn ys yf)) gX gB hw0 inR tyR tyR_ok nmR hown hK hP hD hS 0 rfl rfl 1 (by decide) (hw0 _ q95) (fun _ h9 => h9) rfl (by decide +kernel) rfl rfl (Nat.le_of_ble_eq_true rfl) dR_copyOf_40 rfl (fun H locs hP hD hS => ?_)
        exact hret (min ys (xn : Int), g) dR_copyOf_43 (by first | (dsimp only; exact ⟨by omega, fun j a b => hg j a (by omega)⟩) | (exact ⟨by omega, fun j a b => hg j a (by omega)⟩)) hP hD hS
      refine lv_aload_n (pc := 20) gX gB dR_copyOf_20 rfl (lv_at hl 0 rfl) ?_
      refine va_get (pc := 21) (D := (dC, dI)) (ci := 2) (v := .ref xi) (C := RR) (T := TR) (N := 2) gX gB hw0 inR hown hK hP 0 rfl rfl 0 (by decide) (hw0 _ q94) (fun _ h9 => h9) rfl dR_copyOf_21 ?_
      refine lv_iload_n (pc := 24) gX gB dR_copyOf_24 rfl (lv_at hl 3 rfl) ?_
      refine lv_aload_n (pc := 25) gX gB dR_copyOf_25 rfl (lv_at hl 1 rfl) ?_
      refine va_get (pc := 26) (D := (dC, dI)) (ci := 2) (v := .ref yi) (C := RR) (T := TR) (N := 2) gX gB hw0 inR hown hK hP 2 rfl rfl 0 (by decide) (hw0 _ q94) (fun _ h9 => h9) rfl dR_copyOf_26 ?_
      refine lv_iload_n (pc := 29) gX gB dR_copyOf_29 rfl (lv_at hl 3 rfl) ?_
      refine jv_iald (pc := 30) gX gB hK hP 3 0 rfl rfl (by omega) (by omega) dR_copyOf_30 ?_
      refine jv_iast (pc := 31) (ws' := (wRR cI cZ cG cR xa xi xn xs (uI g i (yf i)) ya yi yn ys yf)) gX gB hK hP hD hS 1 0 rfl rfl (by omega) (by omega) dR_copyOf_31 rfl (fun H locs hP hD hS => ?_)
      refine jv_iinc (pc := 32) (k := 3) (x := i) (n := 1) (lv' := [(3, .int (iv (i + 1))), (0, .ref xa), (1, .ref ya), (2, .int (iv (min ys (xn : Int))))]) gX gB dR_copyOf_32 hl rfl (by decide) rfl (fun ls hl => ?_)
      refine lv_goto (pc := 35) (tgt := 15) gX gB dR_copyOf_35 (by decide) ?_
      exact ih15 (i + 1) (uI g i (yf i)) _ _ _ (by omega) (by intro j a b; by_cases e : j = i; (rw [uI_e e, e]); (rw [uI_n e]; exact hg j a (by omega))) (by omega) (lv_sub hl [1, 2, 3, 0] rfl) hP hD hS
  exact cut15 (((ys - 0 : Int).toNat) + 1) 0 xf _ _ _ (by omega) (by intro j a b; omega) (Nat.lt_succ_self _) (lv_sub hl [2, 3, 1, 0] rfl) hP hD hS
set_option maxRecDepth 100000 in
set_option maxHeartbeats 1000000 in
theorem c_R_comparedWith (l : Launch) (dC : Nat → ClassId) (dI : Nat → Nat → Nat) (cI : ClassId) (cZ : ClassId) (cG : ClassId) (cR : ClassId) (xa : Nat) (xi : Nat) (xn : Nat) (xs : Int) (xf : Int → Int) (ya : Nat) (yi : Nat) (yn : Nat) (ys : Int) (yf : Int → Int) (sz : Nat) (hcap : xn < 1000) (hcy : yn < 1000) (hsx : 0 ≤ xs ∧ xs ≤ (xn : Int)) (hsy : 0 ≤ ys ∧ ys ≤ (yn : Int)) (hrx : ∀ j, 0 ≤ j → j < xs → 0 ≤ xf j ∧ xf j ≤ 5000) (hry : ∀ j, 0 ≤ j → j < ys → 0 ≤ yf j ∧ yf j ≤ 5000) : Met l yR_comparedWith wsR_comparedWith ({ frames := 1, cells := 0, slots := 0, locals := 21 }) (va_Pc [.ref xa, .ref ya] (jPre (dC, dI) (jT cI cZ cG cR) (wRR cI cZ cG cR xa xi xn xs xf ya yi yn ys yf) sz)) (va_Qi (fun (r0 : Int32) (u : Int) => r0 = iv u ∧ (u = cmpL (sg xf 0 xs.toNat) (sg yf 0 ys.toNat))) (fun u => jEnd (dC, dI) (jT cI cZ cG cR) (va_A (wRR cI cZ cG cR xa xi xn xs xf ya yi yn ys yf) sz) (wRR cI cZ cG cR xa xi xn xs xf ya yi yn ys yf)) (va_A (wRR cI cZ cG cR xa xi xn xs xf ya yi yn ys yf) sz)) 0 0 (va_A (wRR cI cZ cG cR xa xi xn xs xf ya yi yn ys yf) sz) := by
  refine jv_mi (cc := cR_comparedWith) (maxL := 4) (by decide) rfl (Nat.le_of_ble_eq_true rfl) ?_
  intro p0 e0 s0 m0 a0 b0 t0 c0 R0 Q0 A0 ls gX gB hts hown hml hRf hRl hA hK hret hl hP hD hS
  have hown : s0.vm.findClass "TextPipeline$Row" = some m0.cls := hown
  have hw0 : ∀ w ∈ WS0, w.before a0 s0 = true := fun w h => hts w (List.mem_cons_of_mem _ h)
  have hl : lv_has ls 4 [(0, .ref xa), (1, .ref ya)] := hl
  have hRf : 1 ≤ R0.frames := hRf
  have hRl : 21 ≤ R0.locals := hRl
  refine lv_aload_n (pc := 0) gX gB dR_comparedWith_0 rfl (lv_at hl 0 rfl) ?_
  refine va_get (pc := 1) (D := (dC, dI)) (ci := 2) (v := .int (iv xs)) (C := RR) (T := TR) (N := 2) gX gB hw0 inR hown hK hP 0 rfl rfl 1 (by decide) (hw0 _ q95) (fun _ h9 => h9) rfl dR_comparedWith_1 ?_
  refine lv_aload_n (pc := 4) gX gB dR_comparedWith_4 rfl (lv_at hl 1 rfl) ?_
  refine va_get (pc := 5) (D := (dC, dI)) (ci := 2) (v := .int (iv ys)) (C := RR) (T := TR) (N := 2) gX gB hw0 inR hown hK hP 2 rfl rfl 1 (by decide) (hw0 _ q95) (fun _ h9 => h9) rfl dR_comparedWith_5 ?_
  refine jv_mmin (pc := 8) (x := xs) (y := ys) (rest := []) gX gB (hml.trans hl.1.symm) hown hw0 q167 (Nat.le_trans (Nat.le_of_ble_eq_true rfl) hRf) (Nat.le_trans (Nat.le_of_ble_eq_true rfl) hRl) (Nat.zero_le _) (Nat.zero_le _) (by omega) (by omega) dR_comparedWith_8 ?_
  refine lv_istore_n (pc := 11) (lv' := [(2, .int (iv (min xs ys))), (0, .ref xa), (1, .ref ya)]) gX gB dR_comparedWith_11 rfl hl (by decide) rfl (fun ls hl => ?_)
  refine lv_iconst (pc := 12) (v := iv 0) gX gB dR_comparedWith_12 rfl ?_
  refine lv_istore_n (pc := 13) (lv' := [(3, .int (iv 0)), (2, .int (iv (min xs ys))), (0, .ref xa), (1, .ref ya)]) gX gB dR_comparedWith_13 rfl hl (by decide) rfl (fun ls hl => ?_)
  have cut14 : ∀ (n0 : Nat) (i : Int) (ls : Array Slot) (H : Heap) (locs : List Loc), (0 ≤ i ∧ i ≤ min xs ys) → (cmpL (sg xf i (xs - i : Int).toNat) (sg yf i (ys - i : Int).toNat) = cmpL (sg xf 0 xs.toNat) (sg yf 0 ys.toNat)) → ((min xs ys - i : Int).toNat < n0) → lv_has ls 4 [(0, .ref xa), (1, .ref ya), (2, .int (iv (min xs ys))), (3, .int (iv i))] → va_P (dC, dI) vwCl (wRR cI cZ cG cR xa xi xn xs xf ya yi yn ys yf) H → va_D A0 (wRR cI cZ cG cR xa xi xn xs xf ya yi yn ys yf) → va_S A0 s0.heap H locs → W p0 l e0 R0 s0 m0 a0 b0 t0 c0 H locs 0 0 Q0 (F0 m0 14 ls []) := by
    intro n0
    induction n0 with
    | zero => intro i ls H locs hi hc hm hl hP hD hS; exact absurd hm (Nat.not_lt_zero _)
    | succ n0 ih14 =>
      intro i ls H locs hi hc hm14 hl hP hD hS
      refine lv_iload_n (pc := 14) gX gB dR_comparedWith_14 rfl (lv_at hl 3 rfl) ?_
      refine lv_iload_n (pc := 15) gX gB dR_comparedWith_15 rfl (lv_at hl 2 rfl) ?_
      refine jv_icmp_ge (pc := 16) (tgt := 61) gX gB dR_comparedWith_16 (by decide) (by omega) (by omega) (fun h1 => ?_) (fun h1 => ?_)
      · skip
        refine lv_aload_n (pc := 61) gX gB dR_comparedWith_61 rfl (lv_at hl 0 rfl) ?_
        refine va_get (pc := 62) (D := (dC, dI)) (ci := 2) (v := .int (iv xs)) (C := RR) (T := TR) (N := 2) gX gB hw0 inR hown hK hP 0 rfl rfl 1 (by decide) (hw0 _ q95) (fun _ h9 => h9) rfl dR_comparedWith_62 ?_
        refine lv_aload_n (pc := 65) gX gB dR_comparedWith_65 rfl (lv_at hl 1 rfl) ?_
        refine va_get (pc := 66) (D := (dC, dI)) (ci := 2) (v := .int (iv ys)) (C := RR) (T := TR) (N := 2) gX gB hw0 inR hown hK hP 2 rfl rfl 1 (by decide) (hw0 _ q95) (fun _ h9 => h9) rfl dR_comparedWith_66 ?_
        refine jv_ri (pc := 69) (wr := [(xa, .inr (2, [.ref xi, .int (iv xs)])), (xi, .inl (cI, xn, .inl (av xf))), (ya, .inr (2, [.ref yi, .int (iv ys)])), (yi, .inl (cI, yn, .inl (av yf)))]) (wn := fun u : Int => (wRR cI cZ cG cR xa xi xn xs xf ya yi yn ys yf)) (va_runS (rest := []) ⟨gX, gB, hml, hown, hw0⟩ (c_J_compare l dC dI cI cZ cG cR  _ xs ys (by omega) (by omega)) (jcS hw0 kJ_compare q635 rfl rfl ⟨Nat.le_trans (Nat.le_of_ble_eq_true rfl) hRf, Nat.le_trans (Nat.le_of_ble_eq_true rfl) hRl⟩) (jv_preS hK hP hD [] rfl (by decide)) rfl rfl hl.1 rfl (lv_room (Nat.le_of_ble_eq_true rfl)) dR_comparedWith_69 ⟨Nat.zero_le _, Nat.zero_le _⟩) hP hD hS hA [] [0, 1, 2, 3] [0, 1, 2, 3] rfl rfl (by decide) (by decide) (by decide) (fun _ => rfl) (fun r0 u H locs hw69 hP hD hS => ?_)
        obtain ⟨r_69, hu⟩ : ∃ z, z = u := ⟨_, rfl⟩; subst hu
        obtain ⟨rfl, hw69⟩ := hw69
        exact hret _ (r_69) dR_comparedWith_72 ⟨rfl, by rw [hw69, ← hc]; rcases (show xs < ys ∨ xs = ys ∨ ys < xs by omega) with z | z | z; (rw [if_pos z, show xs - i = 0 by omega, sg_cons (n := ys - i) (by omega)]; rfl); (rw [if_neg (by omega), if_pos z, show xs - i = 0 by omega, show ys - i = 0 by omega]; rfl); (rw [if_neg (by omega), if_neg (by omega), show ys - i = 0 by omega, sg_cons (n := xs - i) (by omega)]; rfl)⟩ hP hD hS
      have ra := hrx i (by omega) (by omega)
      have rb := hry i (by omega) (by omega)
      have hc2 := hc
      rw [sg_cons (n := xs - i) (by omega), sg_cons (n := ys - i) (by omega)] at hc2
      refine lv_aload_n (pc := 19) gX gB dR_comparedWith_19 rfl (lv_at hl 0 rfl) ?_
      refine va_get (pc := 20) (D := (dC, dI)) (ci := 2) (v := .ref xi) (C := RR) (T := TR) (N := 2) gX gB hw0 inR hown hK hP 0 rfl rfl 0 (by decide) (hw0 _ q94) (fun _ h9 => h9) rfl dR_comparedWith_20 ?_
      refine lv_iload_n (pc := 23) gX gB dR_comparedWith_23 rfl (lv_at hl 3 rfl) ?_
      refine jv_iald (pc := 24) gX gB hK hP 1 0 rfl rfl (by omega) (by omega) dR_comparedWith_24 ?_
      refine lv_aload_n (pc := 25) gX gB dR_comparedWith_25 rfl (lv_at hl 1 rfl) ?_
      refine va_get (pc := 26) (D := (dC, dI)) (ci := 2) (v := .ref yi) (C := RR) (T := TR) (N := 2) gX gB hw0 inR hown hK hP 2 rfl rfl 0 (by decide) (hw0 _ q94) (fun _ h9 => h9) rfl dR_comparedWith_26 ?_
      refine lv_iload_n (pc := 29) gX gB dR_comparedWith_29 rfl (lv_at hl 3 rfl) ?_
      refine jv_iald (pc := 30) gX gB hK hP 3 0 rfl rfl (by omega) (by omega) dR_comparedWith_30 ?_
      refine jv_icmp_eq (pc := 31) (tgt := 55) gX gB dR_comparedWith_31 (by decide) (by omega) (by omega) (fun h2 => ?_) (fun h2 => ?_)
      · skip
        refine jv_iinc (pc := 55) (k := 3) (x := i) (n := 1) (lv' := [(3, .int (iv (i + 1))), (0, .ref xa), (1, .ref ya), (2, .int (iv (min xs ys)))]) gX gB dR_comparedWith_55 hl rfl (by decide) rfl (fun ls hl => ?_)
        refine lv_goto (pc := 58) (tgt := 14) gX gB dR_comparedWith_58 (by decide) ?_
        exact ih14 (i + 1) _ _ _ (by omega) (by rw [← hc2, show xs - (i + 1) = xs - i - 1 by omega, show ys - (i + 1) = ys - i - 1 by omega]; have q : xf i = yf i := (by assumption); rw [q, cmpL_eq]) (by omega) (lv_sub hl [1, 2, 3, 0] rfl) hP hD hS
      refine lv_aload_n (pc := 34) gX gB dR_comparedWith_34 rfl (lv_at hl 0 rfl) ?_
      refine va_get (pc := 35) (D := (dC, dI)) (ci := 2) (v := .ref xi) (C := RR) (T := TR) (N := 2) gX gB hw0 inR hown hK hP 0 rfl rfl 0 (by decide) (hw0 _ q94) (fun _ h9 => h9) rfl dR_comparedWith_35 ?_
      refine lv_iload_n (pc := 38) gX gB dR_comparedWith_38 rfl (lv_at hl 3 rfl) ?_
      refine jv_iald (pc := 39) gX gB hK hP 1 0 rfl rfl (by omega) (by omega) dR_comparedWith_39 ?_
      refine lv_aload_n (pc := 40) gX gB dR_comparedWith_40 rfl (lv_at hl 1 rfl) ?_
      refine va_get (pc := 41) (D := (dC, dI)) (ci := 2) (v := .ref yi) (C := RR) (T := TR) (N := 2) gX gB hw0 inR hown hK hP 2 rfl rfl 0 (by decide) (hw0 _ q94) (fun _ h9 => h9) rfl dR_comparedWith_41 ?_
      refine lv_iload_n (pc := 44) gX gB dR_comparedWith_44 rfl (lv_at hl 3 rfl) ?_
      refine jv_iald (pc := 45) gX gB hK hP 3 0 rfl rfl (by omega) (by omega) dR_comparedWith_45 ?_
      refine jv_icmp_ge (pc := 46) (tgt := 53) gX gB dR_comparedWith_46 (by decide) (by omega) (by omega) (fun h3 => ?_) (fun h3 => ?_)
      · skip
        refine lv_iconst (pc := 53) (v := iv 1) gX gB dR_comparedWith_53 rfl ?_
        exact hret _ (1) dR_comparedWith_54 ⟨rfl, by rw [← hc2, cmpL_ne (by assumption)]; first | (rw [if_pos (by assumption)]) | (rw [if_neg (by omega)])⟩ hP hD hS
      refine lv_iconst (pc := 49) (v := iv (-1)) gX gB dR_comparedWith_49 rfl ?_
      refine lv_goto (pc := 50) (tgt := 54) gX gB dR_comparedWith_50 (by decide) ?_
      exact hret _ ((-1)) dR_comparedWith_54 ⟨rfl, by rw [← hc2, cmpL_ne (by assumption)]; first | (rw [if_pos (by assumption)]) | (rw [if_neg (by omega)])⟩ hP hD hS
  exact cut14 (((min xs ys - 0 : Int).toNat) + 1) 0 _ _ _ (by omega) (by rw [show xs - 0 = xs by omega, show ys - 0 = ys by omega]) (Nat.lt_succ_self _) (lv_sub hl [2, 3, 1, 0] rfl) hP hD hS
