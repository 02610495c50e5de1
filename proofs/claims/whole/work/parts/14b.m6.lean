def fbf (sz tx : Int → Int) : Nat → Int → Int
  | 0, _ => 0
  | d + 1, i => if sz (tx i) < 3 then (if sz (tx i) = 0 then 0 else 1) else fbf sz tx d (i + 1)
def bsf (sz tx : Int → Int) (n w : Int) : Int := if w = 0 ∨ w = 1 then w else fbf sz tx n.toNat 0
theorem fbf_s {sz tx : Int → Int} {d i : Int} (h : 1 ≤ d) : fbf sz tx d.toNat i = if sz (tx i) < 3 then (if sz (tx i) = 0 then 0 else 1) else fbf sz tx (d - 1).toNat (i + 1) := by
  rw [show d.toNat = (d - 1).toNat + 1 by omega]
  rfl
theorem un_end {n : Int} {K f g2 : Int → Int} {i to is : Int} (hB : BS n K) (hg : STG n (w5 n K) K i f) (hi : 1 ≤ i) (ht : to ≤ n + 1) (h1 : K (i - 1) ≠ 5) (h2 : K to ≠ 5) (hr : ∀ j, i ≤ j → j < to → K j = 5) (his : (is = 1 ∧ i < to ∧ (f (i - 1) = 3 ∨ f to = 3)) ∨ (is = 0 ∧ ¬ (i < to ∧ (f (i - 1) = 3 ∨ f to = 3)))) (hlt : i < to) (hg2 : ∀ j, g2 j = if is = 1 ∧ i ≤ j ∧ j < to then 3 else f j) : STG n (w5 n K) K to g2 := by
  have e1 : f (i - 1) = K (i - 1) := by
    rw [hg.1 (i - 1) (by omega) (by omega)]
    exact if_neg (fun z => h1 z.1)
  have e2 : f to = K to := hg.2 to (by omega) (by omega)
  refine ⟨fun j a b => ?_, fun j a b => ?_⟩
  · by_cases c : i ≤ j
    · obtain ⟨v1, v2⟩ := run_val (P := pU) (n := n) (K := K) (i := i) (to := to) (j := j) hi ht (decide_eq_false h1) (decide_eq_false h2) (fun k x y => decide_eq_true (hr k x y)) c b
      rw [hg2 j]
      unfold w5
      rw [v1, v2, ← e1, ← e2, hr j c b]
      rcases his with ⟨z1, z2, z3⟩ | ⟨z1, z2⟩
      · rw [if_pos ⟨z1, c, b⟩, if_pos ⟨rfl, z3⟩]
      · rw [if_neg (fun q => by omega), if_neg (fun q => z2 ⟨hlt, q.2⟩), hg.2 j c (by omega), hr j c b]
    · rw [hg2 j, if_neg (fun q => by omega)]
      exact hg.1 j a (by omega)
  · rw [hg2 j, if_neg (fun q => by omega)]
    exact hg.2 j (by omega) b
set_option maxRecDepth 100000 in
set_option maxHeartbeats 1000000 in
theorem c_M_baseOf (l : Launch) (dC : Nat → ClassId) (dI : Nat → Nat → Nat) (cI : ClassId) (cZ : ClassId) (cG : ClassId) (cR : ClassId) (ad : Nat → Nat) (th : Int) (tb : Int → Int) (fi : Int → Int) (se : Int → Int) (lf : Int → Int) (ct : Int → Int) (ln : Int) (tx : Int → Int) (kl : Int → Int) (kp : Int → Int) (fl : Int) (fo : Int → Int) (ol : Int) (ot : Int → Int) (pl : Int → Int) (ky : Int) (nu : Int → Int) (yk : Int) (yn : Int → Int) (lc : Int → Int) (fw : Int → Int) (sd : Int → Int) (lw : Int → Int) (od : Int → Int) (sz : Nat) (wt : Int) (hT : TBK tb) (hw9 : -2147483648 ≤ wt ∧ wt < 2147483648) (hl9 : 0 ≤ ln ∧ ln ≤ 40) (htx : ∀ j, 0 ≤ j → j < ln → 0 ≤ tx j ∧ tx j < 75) : Met l yM_baseOf wsM_baseOf ({ frames := 2, cells := 0, slots := 0, locals := 43 }) (va_Pc [.ref (ad 0), .int (iv wt)] (jPre (dC, dI) (jT cI cZ cG cR) (pM cI cZ cG cR ad th tb fi se lf ct ln tx kl kp fl fo ol ot pl ky nu yk yn lc fw sd lw od) sz)) (va_Qi (fun (r0 : Int32) (u : Int) => r0 = iv u ∧ ((u = 0 ∨ u = 1) ∧ u = bsf (szM tb) tx ln wt)) (fun u => jEnd (dC, dI) (jT cI cZ cG cR) (va_A (pM cI cZ cG cR ad th tb fi se lf ct ln tx kl kp fl fo ol ot pl ky nu yk yn lc fw sd lw od) sz) (pM cI cZ cG cR ad th tb fi se lf ct ln tx kl kp fl fo ol ot pl ky nu yk yn lc fw sd lw od)) (va_A (pM cI cZ cG cR ad th tb fi se lf ct ln tx kl kp fl fo ol ot pl ky nu yk yn lc fw sd lw od) sz)) 0 0 (va_A (pM cI cZ cG cR ad th tb fi se lf ct ln tx kl kp fl fo ol ot pl ky nu yk yn lc fw sd lw od) sz) := by
  refine jv_mi (cc := cM_baseOf) (maxL := 4) (by decide) rfl (Nat.le_of_ble_eq_true rfl) ?_
  intro p0 e0 s0 m0 a0 b0 t0 c0 R0 Q0 A0 ls gX gB hts hown hml hRf hRl hA hK hret hl hP hD hS
  have hown : s0.vm.findClass "TextPipelineModel" = some m0.cls := hown
  have hw0 : ∀ w ∈ WS0, w.before a0 s0 = true := fun w h => hts w (List.mem_cons_of_mem _ h)
  have hl : lv_has ls 4 [(0, .ref (ad 0)), (1, .int (iv wt))] := hl
  have hRf : 2 ≤ R0.frames := hRf
  have hRl : 43 ≤ R0.locals := hRl
  have cut11 : ∀ (ls : Array Slot) (H : Heap) (locs : List Loc), (¬ (wt = 0 ∨ wt = 1)) → lv_has ls 4 [(0, .ref (ad 0)), (1, .int (iv wt))] → va_P (dC, dI) vwCl (pM cI cZ cG cR ad th tb fi se lf ct ln tx kl kp fl fo ol ot pl ky nu yk yn lc fw sd lw od) H → va_D A0 (pM cI cZ cG cR ad th tb fi se lf ct ln tx kl kp fl fo ol ot pl ky nu yk yn lc fw sd lw od) → va_S A0 s0.heap H locs → W p0 l e0 R0 s0 m0 a0 b0 t0 c0 H locs 0 0 Q0 (F0 m0 11 ls []) := by
    intro  ls H locs h11 hl hP hD hS
    refine lv_iconst (pc := 11) (v := iv 0) gX gB dM_baseOf_11 rfl ?_
    refine lv_istore_n (pc := 12) (lv' := [(2, .int (iv 0)), (0, .ref (ad 0)), (1, .int (iv wt))]) gX gB dM_baseOf_12 rfl hl (by decide) rfl (fun ls hl => ?_)
    have cut13 : ∀ (n0 : Nat) (i : Int) (ls : Array Slot) (H : Heap) (locs : List Loc), (0 ≤ i ∧ i ≤ ln) → (fbf (szM tb) tx (ln - i : Int).toNat i = fbf (szM tb) tx ln.toNat 0) → ((ln - i : Int).toNat < n0) → lv_has ls 4 [(0, .ref (ad 0)), (1, .int (iv wt)), (2, .int (iv i))] → va_P (dC, dI) vwCl (pM cI cZ cG cR ad th tb fi se lf ct ln tx kl kp fl fo ol ot pl ky nu yk yn lc fw sd lw od) H → va_D A0 (pM cI cZ cG cR ad th tb fi se lf ct ln tx kl kp fl fo ol ot pl ky nu yk yn lc fw sd lw od) → va_S A0 s0.heap H locs → W p0 l e0 R0 s0 m0 a0 b0 t0 c0 H locs 0 0 Q0 (F0 m0 13 ls []) := by
      intro n0
      induction n0 with
      | zero => intro i ls H locs hi hq hm hl hP hD hS; exact absurd hm (Nat.not_lt_zero _)
      | succ n0 ih13 =>
        intro i ls H locs hi hq hm13 hl hP hD hS
        refine lv_iload_n (pc := 13) gX gB dM_baseOf_13 rfl (lv_at hl 2 rfl) ?_
        refine lv_aload_n (pc := 14) gX gB dM_baseOf_14 rfl (lv_at hl 0 rfl) ?_
        refine va_get (pc := 15) (D := (dC, dI)) (ci := 5) (v := .int (iv ln)) (C := RM) (T := TM) (N := 24) gX gB hw0 inM hown hK hP 0 rfl rfl 6 (by decide) (hw0 _ q657) (fun _ h9 => h9) rfl dM_baseOf_15 ?_
        refine jv_icmp_ge (pc := 18) (tgt := 53) gX gB dM_baseOf_18 (by decide) (by omega) (by omega) (fun h1 => ?_) (fun h1 => ?_)
        · skip
          refine lv_iconst (pc := 53) (v := iv 0) gX gB dM_baseOf_53 rfl ?_
          exact hret _ (0) dM_baseOf_54 ⟨rfl, by refine ⟨Or.inl rfl, ?_⟩; unfold bsf; rw [if_neg h11, ← hq, show ln - i = 0 by omega]; rfl⟩ hP hD hS
        have ht := htx i (by omega) (by omega)
        have hs9 := fbf_s (sz := szM tb) (tx := tx) (d := ln - i) (i := i) (by omega)
        refine lv_aload_n (pc := 21) gX gB dM_baseOf_21 rfl (lv_at hl 0 rfl) ?_
        refine lv_aload_n (pc := 22) gX gB dM_baseOf_22 rfl (lv_at hl 0 rfl) ?_
        refine va_get (pc := 23) (D := (dC, dI)) (ci := 5) (v := .ref (ad 7)) (C := RM) (T := TM) (N := 24) gX gB hw0 inM hown hK hP 0 rfl rfl 7 (by decide) (hw0 _ q658) (fun _ h9 => h9) rfl dM_baseOf_23 ?_
        refine lv_iload_n (pc := 26) gX gB dM_baseOf_26 rfl (lv_at hl 2 rfl) ?_
        refine jv_iald (pc := 27) gX gB hK hP 6 0 rfl rfl (by decide) (by omega) dM_baseOf_27 ?_
        refine jv_ri (pc := 28) (wr := []) (wn := fun u : Int => (pM cI cZ cG cR ad th tb fi se lf ct ln tx kl kp fl fo ol ot pl ky nu yk yn lc fw sd lw od)) (va_runV (rest := []) ⟨gX, gB, hml, hown, hw0⟩ (c_M_sideOf l dC dI cI cZ cG cR ad th tb fi se lf ct ln tx kl kp fl fo ol ot pl ky nu yk yn lc fw sd lw od _ (tx i) (by omega) (by omega)) (jcV hw0 kM_sideOf q876 rfl rfl ⟨Nat.le_trans (Nat.le_of_ble_eq_true rfl) hRf, Nat.le_trans (Nat.le_of_ble_eq_true rfl) hRl⟩) (jv_preV (ci := 5) (q0 := 0) hK hP hD [0, 1, 2, 3, 4, 5, 6, 7, 8, 9, 10, 11, 12, 13, 14, 15, 16, 17, 18] rfl (by decide) rfl rfl) rfl rfl hl.1 rfl (lv_room (Nat.le_of_ble_eq_true rfl)) dM_baseOf_28 ⟨Nat.zero_le _, Nat.zero_le _⟩) hP hD hS hA [0, 1, 2, 3, 4, 5, 6, 7, 8, 9, 10, 11, 12, 13, 14, 15, 16, 17, 18] [] [0, 1, 2, 3, 4, 5, 6, 7, 8, 9, 10, 11, 12, 13, 14, 15, 16, 17, 18] rfl rfl (by decide) (by decide) (by decide) (fun _ => rfl) (fun r0 u H locs hw28 hP hD hS => ?_)
        obtain ⟨r_28, hu⟩ : ∃ z, z = u := ⟨_, rfl⟩; subst hu
        obtain ⟨rfl, hw28⟩ := hw28
        refine lv_istore_n (pc := 31) (lv' := [(3, .int (iv r_28)), (0, .ref (ad 0)), (1, .int (iv wt)), (2, .int (iv i))]) gX gB dM_baseOf_31 rfl hl (by decide) rfl (fun ls hl => ?_)
        refine lv_iload_n (pc := 32) gX gB dM_baseOf_32 rfl (lv_at hl 0 rfl) ?_
        refine lv_iconst (pc := 33) (v := iv 3) gX gB dM_baseOf_33 rfl ?_
        refine jv_icmp_ge (pc := 34) (tgt := 47) gX gB dM_baseOf_34 (by decide) (by omega) (by decide) (fun h2 => ?_) (fun h2 => ?_)
        · skip
          refine jv_iinc (pc := 47) (k := 3) (x := i) (n := 1) (lv' := [(2, .int (iv (i + 1))), (3, .int (iv r_28)), (0, .ref (ad 0)), (1, .int (iv wt))]) gX gB dM_baseOf_47 hl rfl (by decide) rfl (fun ls hl => ?_)
          refine lv_goto (pc := 50) (tgt := 13) gX gB dM_baseOf_50 (by decide) ?_
          exact ih13 (i + 1) _ _ _ (by omega) (by rw [← hq, hs9, if_neg (by omega), show ln - (i + 1) = ln - i - 1 by omega]) (by omega) (lv_sub hl [2, 3, 0] rfl) hP hD hS
        refine lv_iload_n (pc := 37) gX gB dM_baseOf_37 rfl (lv_at hl 0 rfl) ?_
        refine jv_if_ne (pc := 38) (tgt := 45) gX gB dM_baseOf_38 (by decide) (by omega) (fun h3 => ?_) (fun h3 => ?_)
        · skip
          refine lv_iconst (pc := 45) (v := iv 1) gX gB dM_baseOf_45 rfl ?_
          exact hret _ (1) dM_baseOf_46 ⟨rfl, by first | (refine ⟨Or.inl rfl, ?_⟩; unfold bsf; rw [if_neg h11, ← hq, hs9, if_pos (by omega), if_pos (by omega)]) | (refine ⟨Or.inr rfl, ?_⟩; unfold bsf; rw [if_neg h11, ← hq, hs9, if_pos (by omega), if_neg (by omega)])⟩ hP hD hS
        refine lv_iconst (pc := 41) (v := iv 0) gX gB dM_baseOf_41 rfl ?_
        refine lv_goto (pc := 42) (tgt := 46) gX gB dM_baseOf_42 (by decide) ?_
        exact hret _ (0) dM_baseOf_46 ⟨rfl, by first | (refine ⟨Or.inl rfl, ?_⟩; unfold bsf; rw [if_neg h11, ← hq, hs9, if_pos (by omega), if_pos (by omega)]) | (refine ⟨Or.inr rfl, ?_⟩; unfold bsf; rw [if_neg h11, ← hq, hs9, if_pos (by omega), if_neg (by omega)])⟩ hP hD hS
    exact cut13 (((ln - 0 : Int).toNat) + 1) 0 _ _ _ (by omega) (by rw [show ln - 0 = ln by omega]) (Nat.lt_succ_self _) (lv_sub hl [1, 2, 0] rfl) hP hD hS
  have cut9 : ∀ (ls : Array Slot) (H : Heap) (locs : List Loc), (wt = 0 ∨ wt = 1) → lv_has ls 4 [(0, .ref (ad 0)), (1, .int (iv wt))] → va_P (dC, dI) vwCl (pM cI cZ cG cR ad th tb fi se lf ct ln tx kl kp fl fo ol ot pl ky nu yk yn lc fw sd lw od) H → va_D A0 (pM cI cZ cG cR ad th tb fi se lf ct ln tx kl kp fl fo ol ot pl ky nu yk yn lc fw sd lw od) → va_S A0 s0.heap H locs → W p0 l e0 R0 s0 m0 a0 b0 t0 c0 H locs 0 0 Q0 (F0 m0 9 ls []) := by
    intro  ls H locs h9 hl hP hD hS
    refine lv_iload_n (pc := 9) gX gB dM_baseOf_9 rfl (lv_at hl 1 rfl) ?_
    exact hret _ (wt) dM_baseOf_10 ⟨rfl, by refine ⟨h9, ?_⟩; unfold bsf; rw [if_pos h9]⟩ hP hD hS
  refine lv_iload_n (pc := 0) gX gB dM_baseOf_0 rfl (lv_at hl 1 rfl) ?_
  refine jv_if_eq (pc := 1) (tgt := 9) gX gB dM_baseOf_1 (by decide) (by omega) (fun h4 => ?_) (fun h4 => ?_)
  · skip
    exact cut9  _ _ _ (by omega) hl hP hD hS
  refine lv_iload_n (pc := 4) gX gB dM_baseOf_4 rfl (lv_at hl 1 rfl) ?_
  refine lv_iconst (pc := 5) (v := iv 1) gX gB dM_baseOf_5 rfl ?_
  refine jv_icmp_ne (pc := 6) (tgt := 11) gX gB dM_baseOf_6 (by decide) (by omega) (by decide) (fun h5 => ?_) (fun h5 => ?_)
  · skip
    exact cut11  _ _ _ (by omega) hl hP hD hS
  exact cut9  _ _ _ (by omega) hl hP hD hS
set_option maxRecDepth 100000 in
set_option maxHeartbeats 1000000 in
theorem c_M_nearest (l : Launch) (dC : Nat → ClassId) (dI : Nat → Nat → Nat) (cI : ClassId) (cZ : ClassId) (cG : ClassId) (cR : ClassId) (ad : Nat → Nat) (th : Int) (tb : Int → Int) (fi : Int → Int) (se : Int → Int) (lf : Int → Int) (ct : Int → Int) (ln : Int) (tx : Int → Int) (kl : Int → Int) (kp : Int → Int) (fl : Int) (fo : Int → Int) (ol : Int) (ot : Int → Int) (pl : Int → Int) (ky : Int) (nu : Int → Int) (yk : Int) (yn : Int → Int) (lc : Int → Int) (fw : Int → Int) (sd : Int → Int) (lw : Int → Int) (od : Int → Int) (sz : Nat) (i : Int) (hi : 1 ≤ i ∧ i ≤ 41) (h0 : sd 0 = 0 ∨ sd 0 = 1) (hr9 : ∀ j, 0 ≤ j → j < i → 0 ≤ sd j ∧ sd j ≤ 11) : Met l yM_nearest wsM_nearest ({ frames := 0, cells := 0, slots := 0, locals := 0 }) (va_Pc [.ref (ad 0), .int (iv i)] (jPre (dC, dI) (jT cI cZ cG cR) (pM cI cZ cG cR ad th tb fi se lf ct ln tx kl kp fl fo ol ot pl ky nu yk yn lc fw sd lw od) sz)) (va_Qi (fun (r0 : Int32) (u : Int) => r0 = iv u ∧ (u = stf sd (i - 1) ∧ 0 ≤ u ∧ u ≤ 2)) (fun u => jEnd (dC, dI) (jT cI cZ cG cR) (va_A (pM cI cZ cG cR ad th tb fi se lf ct ln tx kl kp fl fo ol ot pl ky nu yk yn lc fw sd lw od) sz) (pM cI cZ cG cR ad th tb fi se lf ct ln tx kl kp fl fo ol ot pl ky nu yk yn lc fw sd lw od)) (va_A (pM cI cZ cG cR ad th tb fi se lf ct ln tx kl kp fl fo ol ot pl ky nu yk yn lc fw sd lw od) sz)) 0 0 (va_A (pM cI cZ cG cR ad th tb fi se lf ct ln tx kl kp fl fo ol ot pl ky nu yk yn lc fw sd lw od) sz) := by
  refine jv_mi (cc := cM_nearest) (maxL := 3) (by decide) rfl (Nat.le_of_ble_eq_true rfl) ?_
  intro p0 e0 s0 m0 a0 b0 t0 c0 R0 Q0 A0 ls gX gB hts hown hml hRf hRl hA hK hret hl hP hD hS
  have hown : s0.vm.findClass "TextPipelineModel" = some m0.cls := hown
  have hw0 : ∀ w ∈ WS0, w.before a0 s0 = true := fun w h => hts w (List.mem_cons_of_mem _ h)
  have hl : lv_has ls 3 [(0, .ref (ad 0)), (1, .int (iv i))] := hl
  have hRf : 0 ≤ R0.frames := hRf
  have hRl : 0 ≤ R0.locals := hRl
  refine lv_iload_n (pc := 0) gX gB dM_nearest_0 rfl (lv_at hl 1 rfl) ?_
  refine lv_iconst (pc := 1) (v := iv 1) gX gB dM_nearest_1 rfl ?_
  refine jv_isub (pc := 2) (x := i) (y := 1) gX gB dM_nearest_2 ?_
  refine lv_istore_n (pc := 3) (lv' := [(2, .int (iv (i - 1))), (0, .ref (ad 0)), (1, .int (iv i))]) gX gB dM_nearest_3 rfl hl (by decide) rfl (fun ls hl => ?_)
  have cut4 : ∀ (n0 : Nat) (k : Int) (ls : Array Slot) (H : Heap) (locs : List Loc), (0 ≤ k ∧ k ≤ i - 1) → (stf sd k = stf sd (i - 1)) → (k.toNat < n0) → lv_has ls 3 [(0, .ref (ad 0)), (1, .int (iv i)), (2, .int (iv k))] → va_P (dC, dI) vwCl (pM cI cZ cG cR ad th tb fi se lf ct ln tx kl kp fl fo ol ot pl ky nu yk yn lc fw sd lw od) H → va_D A0 (pM cI cZ cG cR ad th tb fi se lf ct ln tx kl kp fl fo ol ot pl ky nu yk yn lc fw sd lw od) → va_S A0 s0.heap H locs → W p0 l e0 R0 s0 m0 a0 b0 t0 c0 H locs 0 0 Q0 (F0 m0 4 ls []) := by
    intro n0
    induction n0 with
    | zero => intro k ls H locs hk hq hm hl hP hD hS; exact absurd hm (Nat.not_lt_zero _)
    | succ n0 ih4 =>
      intro k ls H locs hk hq hm4 hl hP hD hS
      have hrk := hr9 k (by omega) (by omega)
      refine lv_aload_n (pc := 4) gX gB dM_nearest_4 rfl (lv_at hl 0 rfl) ?_
      refine va_get (pc := 5) (D := (dC, dI)) (ci := 5) (v := .ref (ad 21)) (C := RM) (T := TM) (N := 24) gX gB hw0 inM hown hK hP 0 rfl rfl 21 (by decide) (hw0 _ q672) (fun _ h9 => h9) rfl dM_nearest_5 ?_
      refine lv_iload_n (pc := 8) gX gB dM_nearest_8 rfl (lv_at hl 2 rfl) ?_
      refine jv_iald (pc := 9) gX gB hK hP 16 0 rfl rfl (by decide) (by omega) dM_nearest_9 ?_
      refine lv_iconst (pc := 10) (v := iv 2) gX gB dM_nearest_10 rfl ?_
      refine jv_icmp_le (pc := 11) (tgt := 20) gX gB dM_nearest_11 (by decide) (by omega) (by decide) (fun h1 => ?_) (fun h1 => ?_)
      · skip
        refine lv_aload_n (pc := 20) gX gB dM_nearest_20 rfl (lv_at hl 0 rfl) ?_
        refine va_get (pc := 21) (D := (dC, dI)) (ci := 5) (v := .ref (ad 21)) (C := RM) (T := TM) (N := 24) gX gB hw0 inM hown hK hP 0 rfl rfl 21 (by decide) (hw0 _ q672) (fun _ h9 => h9) rfl dM_nearest_21 ?_
        refine lv_iload_n (pc := 24) gX gB dM_nearest_24 rfl (lv_at hl 2 rfl) ?_
        refine jv_iald (pc := 25) gX gB hK hP 16 0 rfl rfl (by decide) (by omega) dM_nearest_25 ?_
        exact hret _ (sd k) dM_nearest_26 ⟨rfl, by have e : sd k = stf sd (i - 1) := (by rw [← hq]; rcases (show k = 0 ∨ 1 ≤ k by omega) with z | z; (subst z; rfl); (rw [stf_s z, if_neg (by omega)])); exact ⟨e, by omega⟩⟩ hP hD hS
      have hk1 : 1 ≤ k := by (rcases (show k = 0 ∨ 1 ≤ k by omega) with z | z); (subst z; omega); exact z
      refine jv_idec (pc := 14) (k := 2) (x := k) (n := (-1)) (d := 1) (lv' := [(2, .int (iv (k - 1))), (0, .ref (ad 0)), (1, .int (iv i))]) gX gB dM_nearest_14 (by decide) hl rfl (by decide) rfl (fun ls hl => ?_)
      refine lv_goto (pc := 17) (tgt := 4) gX gB dM_nearest_17 (by decide) ?_
      exact ih4 (k - 1) _ _ _ (by omega) (by rw [← hq, stf_s (i := k) hk1, if_pos (by omega)]) (by omega) (lv_sub hl [1, 2, 0] rfl) hP hD hS
  exact cut4 (((i - 1).toNat) + 1) (i - 1) _ _ _ (by omega) (by rfl) (Nat.lt_succ_self _) (lv_sub hl [1, 2, 0] rfl) hP hD hS
set_option maxRecDepth 100000 in
set_option maxHeartbeats 2000000 in
theorem c_M_units (l : Launch) (dC : Nat → ClassId) (dI : Nat → Nat → Nat) (cI : ClassId) (cZ : ClassId) (cG : ClassId) (cR : ClassId) (ad : Nat → Nat) (th : Int) (tb : Int → Int) (fi : Int → Int) (se : Int → Int) (lf : Int → Int) (ct : Int → Int) (ln : Int) (tx : Int → Int) (kl : Int → Int) (kp : Int → Int) (fl : Int) (fo : Int → Int) (ol : Int) (ot : Int → Int) (pl : Int → Int) (ky : Int) (nu : Int → Int) (yk : Int) (yn : Int → Int) (lc : Int → Int) (fw : Int → Int) (sd : Int → Int) (lw : Int → Int) (od : Int → Int) (sz : Nat) (hl9 : 0 ≤ ln ∧ ln ≤ 40) (hB : BS ln sd) : Met l yM_units wsM_units ({ frames := 0, cells := 0, slots := 0, locals := 0 }) (va_Pc [.ref (ad 0)] (jPre (dC, dI) (jT cI cZ cG cR) (pM cI cZ cG cR ad th tb fi se lf ct ln tx kl kp fl fo ol ot pl ky nu yk yn lc fw sd lw od) sz)) (va_Qv (fun u : (Int → Int) => EqR ln u (w5 ln sd)) (fun u => jEnd (dC, dI) (jT cI cZ cG cR) (va_A (pM cI cZ cG cR ad th tb fi se lf ct ln tx kl kp fl fo ol ot pl ky nu yk yn lc fw sd lw od) sz) (pM cI cZ cG cR ad th tb fi se lf ct ln tx kl kp fl fo ol ot pl ky nu yk yn lc fw u lw od)) (va_A (pM cI cZ cG cR ad th tb fi se lf ct ln tx kl kp fl fo ol ot pl ky nu yk yn lc fw sd lw od) sz)) 0 0 (va_A (pM cI cZ cG cR ad th tb fi se lf ct ln tx kl kp fl fo ol ot pl ky nu yk yn lc fw sd lw od) sz) := by
  refine jv_mv (cc := cM_units) (maxL := 5) (by decide) rfl (Nat.le_of_ble_eq_true rfl) ?_
  intro p0 e0 s0 m0 a0 b0 t0 c0 R0 Q0 A0 ls gX gB hts hown hml hRf hRl hA hK hret hl hP hD hS
  have hown : s0.vm.findClass "TextPipelineModel" = some m0.cls := hown
  have hw0 : ∀ w ∈ WS0, w.before a0 s0 = true := fun w h => hts w (List.mem_cons_of_mem _ h)
  have hl : lv_has ls 5 [(0, .ref (ad 0))] := hl
  have hRf : 0 ≤ R0.frames := hRf
  have hRl : 0 ≤ R0.locals := hRl
  have hB5 := BS_5 hl9.1 hB
  have hK1 : sd (ln + 1) ≠ 5 := by have := hB.2.1; omega
  have hK0 : sd 0 ≠ 5 := by have := hB.1; omega
  refine lv_iconst (pc := 0) (v := iv 1) gX gB dM_units_0 rfl ?_
  refine lv_istore_n (pc := 1) (lv' := [(1, .int (iv 1)), (0, .ref (ad 0))]) gX gB dM_units_1 rfl hl (by decide) rfl (fun ls hl => ?_)
  have cut2 : ∀ (n0 : Nat) (i : Int) (f : Int → Int) (ls : Array Slot) (H : Heap) (locs : List Loc), (1 ≤ i ∧ i ≤ ln + 1) → (STG ln (w5 ln sd) sd i f) → (RGK ln f) → (sd (i - 1) ≠ 5 ∨ sd i ≠ 5) → ((ln + 1 - i : Int).toNat < n0) → lv_has ls 5 [(0, .ref (ad 0)), (1, .int (iv i))] → va_P (dC, dI) vwCl (pM cI cZ cG cR ad th tb fi se lf ct ln tx kl kp fl fo ol ot pl ky nu yk yn lc fw f lw od) H → va_D A0 (pM cI cZ cG cR ad th tb fi se lf ct ln tx kl kp fl fo ol ot pl ky nu yk yn lc fw f lw od) → va_S A0 s0.heap H locs → W p0 l e0 R0 s0 m0 a0 b0 t0 c0 H locs 0 0 Q0 (F0 m0 2 ls []) := by
    intro n0
    induction n0 with
    | zero => intro i f ls H locs hi hg hr9 hbd hm hl hP hD hS; exact absurd hm (Nat.not_lt_zero _)
    | succ n0 ih2 =>
      intro i f ls H locs hi hg hr9 hbd hm2 hl hP hD hS
      refine lv_iload_n (pc := 2) gX gB dM_units_2 rfl (lv_at hl 1 rfl) ?_
      refine lv_aload_n (pc := 3) gX gB dM_units_3 rfl (lv_at hl 0 rfl) ?_
      refine va_get (pc := 4) (D := (dC, dI)) (ci := 5) (v := .int (iv ln)) (C := RM) (T := TM) (N := 24) gX gB hw0 inM hown hK hP 0 rfl rfl 6 (by decide) (hw0 _ q657) (fun _ h9 => h9) rfl dM_units_4 ?_
      refine jv_icmp_gt (pc := 7) (tgt := 112) gX gB dM_units_7 (by decide) (by omega) (by omega) (fun h1 => ?_) (fun h1 => ?_)
      · skip
        exact hret (f) dM_units_112 (by exact stg_end hg (by omega) hB5.2.2) hP hD hS
      refine lv_iload_n (pc := 10) gX gB dM_units_10 rfl (lv_at hl 1 rfl) ?_
      refine lv_istore_n (pc := 11) (lv' := [(2, .int (iv i)), (0, .ref (ad 0)), (1, .int (iv i))]) gX gB dM_units_11 rfl hl (by decide) rfl (fun ls hl => ?_)
      have cut36 : ∀ (to : Int) (ls : Array Slot) (H : Heap) (locs : List Loc), (i ≤ to ∧ to ≤ ln + 1) → (∀ j, i ≤ j → j < to → sd j = 5) → (sd to ≠ 5) → lv_has ls 5 [(0, .ref (ad 0)), (1, .int (iv i)), (2, .int (iv to))] → va_P (dC, dI) vwCl (pM cI cZ cG cR ad th tb fi se lf ct ln tx kl kp fl fo ol ot pl ky nu yk yn lc fw f lw od) H → va_D A0 (pM cI cZ cG cR ad th tb fi se lf ct ln tx kl kp fl fo ol ot pl ky nu yk yn lc fw f lw od) → va_S A0 s0.heap H locs → W p0 l e0 R0 s0 m0 a0 b0 t0 c0 H locs 0 0 Q0 (F0 m0 36 ls []) := by
        intro to ls H locs ht hrun hne hl hP hD hS
        have hrt := hr9 to (by omega) (by omega)
        have hr1 := hr9 (i - 1) (by omega) (by omega)
        have hft := hg.2 to (by omega) (by omega)
        have cut68 : ∀ (is : Int) (ls : Array Slot) (H : Heap) (locs : List Loc), ((is = 1 ∧ i < to ∧ (f (i - 1) = 3 ∨ f to = 3)) ∨ (is = 0 ∧ ¬ (i < to ∧ (f (i - 1) = 3 ∨ f to = 3)))) → lv_has ls 5 [(0, .ref (ad 0)), (1, .int (iv i)), (2, .int (iv to))] → va_P (dC, dI) vwCl (pM cI cZ cG cR ad th tb fi se lf ct ln tx kl kp fl fo ol ot pl ky nu yk yn lc fw f lw od) H → va_D A0 (pM cI cZ cG cR ad th tb fi se lf ct ln tx kl kp fl fo ol ot pl ky nu yk yn lc fw f lw od) → va_S A0 s0.heap H locs → W p0 l e0 R0 s0 m0 a0 b0 t0 c0 H locs 0 0 Q0 (F0 m0 68 ls [.int (iv is)]) := by
          intro is ls H locs his hl hP hD hS
          refine lv_istore_n (pc := 68) (lv' := [(3, .int (iv is)), (0, .ref (ad 0)), (1, .int (iv i)), (2, .int (iv to))]) gX gB dM_units_68 rfl hl (by decide) rfl (fun ls hl => ?_)
          have his01 : is = 0 ∨ is = 1 := by rcases his with z | z; exact Or.inr z.1; exact Or.inl z.1
          have rgi : -2147483648 ≤ is ∧ is < 2147483648 := by rcases his01 with z | z <;> (rw [z]; decide)
          refine lv_iload_n (pc := 69) gX gB dM_units_69 rfl (lv_at hl 2 rfl) ?_
          refine lv_istore (pc := 70) (lv' := [(4, .int (iv i)), (3, .int (iv is)), (0, .ref (ad 0)), (1, .int (iv i)), (2, .int (iv to))]) gX gB dM_units_70 hl (by decide) rfl (fun ls hl => ?_)
          have cut96 : ∀ (g2 : Int → Int) (ls : Array Slot) (H : Heap) (locs : List Loc), (∀ j, g2 j = if is = 1 ∧ i ≤ j ∧ j < to then 3 else f j) → lv_has ls 5 [(0, .ref (ad 0)), (1, .int (iv i)), (2, .int (iv to))] → va_P (dC, dI) vwCl (pM cI cZ cG cR ad th tb fi se lf ct ln tx kl kp fl fo ol ot pl ky nu yk yn lc fw g2 lw od) H → va_D A0 (pM cI cZ cG cR ad th tb fi se lf ct ln tx kl kp fl fo ol ot pl ky nu yk yn lc fw g2 lw od) → va_S A0 s0.heap H locs → W p0 l e0 R0 s0 m0 a0 b0 t0 c0 H locs 0 0 Q0 (F0 m0 96 ls []) := by
            intro g2 ls H locs hg2 hl hP hD hS
            have hR2 : RGK ln g2 := fun j a b => by rw [hg2 j]; split; exact ⟨by decide, by decide⟩; exact hr9 j a b
            have hS2 : i < to → STG ln (w5 ln sd) sd to g2 := fun hlt => un_end hB hg (by omega) (by omega) (by rcases hbd with z | z; exact z; exact absurd (hrun i (by omega) hlt) z) hne hrun his hlt hg2
            have hE2 : ¬ i < to → g2 = f := fun hlt => by funext j; rw [hg2 j, if_neg (fun z => by omega)]
            refine lv_iload_n (pc := 96) gX gB dM_units_96 rfl (lv_at hl 2 rfl) ?_
            refine lv_iload_n (pc := 97) gX gB dM_units_97 rfl (lv_at hl 1 rfl) ?_
            refine jv_icmp_le (pc := 98) (tgt := 105) gX gB dM_units_98 (by decide) (by omega) (by omega) (fun h2 => ?_) (fun h2 => ?_)
            · skip
              refine lv_iload_n (pc := 105) gX gB dM_units_105 rfl (lv_at hl 1 rfl) ?_
              refine lv_iconst (pc := 106) (v := iv 1) gX gB dM_units_106 rfl ?_
              refine jv_iadd (pc := 107) (x := i) (y := 1) gX gB dM_units_107 ?_
              refine lv_istore_n (pc := 108) (lv' := [(1, .int (iv (i + 1))), (0, .ref (ad 0)), (2, .int (iv to))]) gX gB dM_units_108 rfl hl (by decide) rfl (fun ls hl => ?_)
              refine lv_goto (pc := 109) (tgt := 2) gX gB dM_units_109 (by decide) ?_
              exact ih2 (i + 1) g2 _ _ _ (by omega) (by first | exact hS2 (by omega) | (rw [hE2 (by omega)]; have q : f = uI f i (f i) := (by funext j; by_cases e : j = i; (rw [uI_e e, e]); (rw [uI_n e])); rw [q]; refine stg_up hg ?_; rw [hg.2 i (by omega) (by omega)]; unfold w5; rw [if_neg (fun z => by rw [show to = i by omega] at hne; exact hne z.1)])) (by exact hR2) (by first | exact Or.inr hne | (rw [show i + 1 - 1 = i by omega]; left; rw [show i = to by omega]; exact hne)) (by omega) (lv_sub hl [1, 0] rfl) hP hD hS
            refine lv_iload_n (pc := 101) gX gB dM_units_101 rfl (lv_at hl 2 rfl) ?_
            refine lv_goto (pc := 102) (tgt := 108) gX gB dM_units_102 (by decide) ?_
            refine lv_istore_n (pc := 108) (lv' := [(1, .int (iv to)), (0, .ref (ad 0)), (2, .int (iv to))]) gX gB dM_units_108 rfl hl (by decide) rfl (fun ls hl => ?_)
            refine lv_goto (pc := 109) (tgt := 2) gX gB dM_units_109 (by decide) ?_
            exact ih2 to g2 _ _ _ (by omega) (by first | exact hS2 (by omega) | (rw [hE2 (by omega)]; have q : f = uI f i (f i) := (by funext j; by_cases e : j = i; (rw [uI_e e, e]); (rw [uI_n e])); rw [q]; refine stg_up hg ?_; rw [hg.2 i (by omega) (by omega)]; unfold w5; rw [if_neg (fun z => by rw [show to = i by omega] at hne; exact hne z.1)])) (by exact hR2) (by first | exact Or.inr hne | (rw [show i + 1 - 1 = i by omega]; left; rw [show i = to by omega]; exact hne)) (by omega) (lv_sub hl [1, 0] rfl) hP hD hS
          have cut72 : ∀ (n0 : Nat) (k : Int) (g : Int → Int) (ls : Array Slot) (H : Heap) (locs : List Loc), (i ≤ k ∧ k ≤ to) → (∀ j, g j = if is = 1 ∧ i ≤ j ∧ j < k then 3 else f j) → ((to - k : Int).toNat < n0) → lv_has ls 5 [(0, .ref (ad 0)), (1, .int (iv i)), (2, .int (iv to)), (3, .int (iv is)), (4, .int (iv k))] → va_P (dC, dI) vwCl (pM cI cZ cG cR ad th tb fi se lf ct ln tx kl kp fl fo ol ot pl ky nu yk yn lc fw g lw od) H → va_D A0 (pM cI cZ cG cR ad th tb fi se lf ct ln tx kl kp fl fo ol ot pl ky nu yk yn lc fw g lw od) → va_S A0 s0.heap H locs → W p0 l e0 R0 s0 m0 a0 b0 t0 c0 H locs 0 0 Q0 (F0 m0 72 ls []) := by
            intro n0
            induction n0 with
            | zero => intro k g ls H locs hk hgg hm hl hP hD hS; exact absurd hm (Nat.not_lt_zero _)
            | succ n0 ih72 =>
              intro k g ls H locs hk hgg hm72 hl hP hD hS
              refine lv_iload (pc := 72) gX gB dM_units_72 (lv_at hl 4 rfl) ?_
              refine lv_iload_n (pc := 74) gX gB dM_units_74 rfl (lv_at hl 2 rfl) ?_
              refine jv_icmp_ge (pc := 75) (tgt := 96) gX gB dM_units_75 (by decide) (by omega) (by omega) (fun h3 => ?_) (fun h3 => ?_)
              · skip
                exact cut96 g _ _ _ (by intro j; rw [hgg j, show k = to by omega]) (lv_sub hl [0, 1, 2] rfl) hP hD hS
              refine lv_iload_n (pc := 78) gX gB dM_units_78 rfl (lv_at hl 3 rfl) ?_
              refine jv_if_eq (pc := 79) (tgt := 96) gX gB dM_units_79 (by decide) rgi (fun h4 => ?_) (fun h4 => ?_)
              · skip
                exact cut96 g _ _ _ (by intro j; rw [hgg j, if_neg (fun z => by omega), if_neg (fun z => by omega)]) (lv_sub hl [0, 1, 2] rfl) hP hD hS
              refine lv_aload_n (pc := 82) gX gB dM_units_82 rfl (lv_at hl 0 rfl) ?_
              refine va_get (pc := 83) (D := (dC, dI)) (ci := 5) (v := .ref (ad 21)) (C := RM) (T := TM) (N := 24) gX gB hw0 inM hown hK hP 0 rfl rfl 21 (by decide) (hw0 _ q672) (fun _ h9 => h9) rfl dM_units_83 ?_
              refine lv_iload (pc := 86) gX gB dM_units_86 (lv_at hl 4 rfl) ?_
              refine lv_iconst (pc := 88) (v := iv 3) gX gB dM_units_88 rfl ?_
              refine jv_iast (pc := 89) (ws' := (pM cI cZ cG cR ad th tb fi se lf ct ln tx kl kp fl fo ol ot pl ky nu yk yn lc fw (uI g k 3) lw od)) gX gB hK hP hD hS 16 0 rfl rfl (by decide) (by omega) dM_units_89 rfl (fun H locs hP hD hS => ?_)
              refine jv_iinc (pc := 90) (k := 4) (x := k) (n := 1) (lv' := [(4, .int (iv (k + 1))), (0, .ref (ad 0)), (1, .int (iv i)), (2, .int (iv to)), (3, .int (iv is))]) gX gB dM_units_90 hl rfl (by decide) rfl (fun ls hl => ?_)
              refine lv_goto (pc := 93) (tgt := 72) gX gB dM_units_93 (by decide) ?_
              exact ih72 (k + 1) (uI g k 3) _ _ _ (by omega) (by intro j; by_cases e : j = k; (rw [uI_e e, if_pos ⟨by rcases his01 with z | z; (exact absurd z (by assumption)); exact z, by omega, by omega⟩]); (rw [uI_n e, hgg j]; by_cases c : is = 1 ∧ i ≤ j ∧ j < k; (rw [if_pos c, if_pos ⟨c.1, c.2.1, by omega⟩]); (rw [if_neg c, if_neg (fun z => c ⟨z.1, z.2.1, by omega⟩)]))) (by omega) (lv_sub hl [1, 2, 3, 4, 0] rfl) hP hD hS
          exact cut72 (((to - i : Int).toNat) + 1) i f _ _ _ (by omega) (by intro j; rw [if_neg (fun z => by omega)]) (Nat.lt_succ_self _) (lv_sub hl [2, 3, 4, 1, 0] rfl) hP hD hS
        have cut67 : ∀ (ls : Array Slot) (H : Heap) (locs : List Loc), (¬ (i < to ∧ (f (i - 1) = 3 ∨ f to = 3))) → lv_has ls 5 [(0, .ref (ad 0)), (1, .int (iv i)), (2, .int (iv to))] → va_P (dC, dI) vwCl (pM cI cZ cG cR ad th tb fi se lf ct ln tx kl kp fl fo ol ot pl ky nu yk yn lc fw f lw od) H → va_D A0 (pM cI cZ cG cR ad th tb fi se lf ct ln tx kl kp fl fo ol ot pl ky nu yk yn lc fw f lw od) → va_S A0 s0.heap H locs → W p0 l e0 R0 s0 m0 a0 b0 t0 c0 H locs 0 0 Q0 (F0 m0 67 ls []) := by
          intro  ls H locs h67 hl hP hD hS
          refine lv_iconst (pc := 67) (v := iv 0) gX gB dM_units_67 rfl ?_
          exact cut68 0 _ _ _ (by exact Or.inr ⟨rfl, h67⟩) hl hP hD hS
        have cut63 : ∀ (ls : Array Slot) (H : Heap) (locs : List Loc), (i < to ∧ (f (i - 1) = 3 ∨ f to = 3)) → lv_has ls 5 [(0, .ref (ad 0)), (1, .int (iv i)), (2, .int (iv to))] → va_P (dC, dI) vwCl (pM cI cZ cG cR ad th tb fi se lf ct ln tx kl kp fl fo ol ot pl ky nu yk yn lc fw f lw od) H → va_D A0 (pM cI cZ cG cR ad th tb fi se lf ct ln tx kl kp fl fo ol ot pl ky nu yk yn lc fw f lw od) → va_S A0 s0.heap H locs → W p0 l e0 R0 s0 m0 a0 b0 t0 c0 H locs 0 0 Q0 (F0 m0 63 ls []) := by
          intro  ls H locs h63 hl hP hD hS
          refine lv_iconst (pc := 63) (v := iv 1) gX gB dM_units_63 rfl ?_
          refine lv_goto (pc := 64) (tgt := 68) gX gB dM_units_64 (by decide) ?_
          exact cut68 1 _ _ _ (by exact Or.inl ⟨rfl, h63⟩) hl hP hD hS
        refine lv_iload_n (pc := 36) gX gB dM_units_36 rfl (lv_at hl 2 rfl) ?_
        refine lv_iload_n (pc := 37) gX gB dM_units_37 rfl (lv_at hl 1 rfl) ?_
        refine jv_icmp_le (pc := 38) (tgt := 67) gX gB dM_units_38 (by decide) (by omega) (by omega) (fun h5 => ?_) (fun h5 => ?_)
        · skip
          exact cut67  _ _ _ (by exact fun h => by omega) hl hP hD hS
        refine lv_aload_n (pc := 41) gX gB dM_units_41 rfl (lv_at hl 0 rfl) ?_
        refine va_get (pc := 42) (D := (dC, dI)) (ci := 5) (v := .ref (ad 21)) (C := RM) (T := TM) (N := 24) gX gB hw0 inM hown hK hP 0 rfl rfl 21 (by decide) (hw0 _ q672) (fun _ h9 => h9) rfl dM_units_42 ?_
        refine lv_iload_n (pc := 45) gX gB dM_units_45 rfl (lv_at hl 1 rfl) ?_
        refine lv_iconst (pc := 46) (v := iv 1) gX gB dM_units_46 rfl ?_
        refine jv_isub (pc := 47) (x := i) (y := 1) gX gB dM_units_47 ?_
        refine jv_iald (pc := 48) gX gB hK hP 16 0 rfl rfl (by decide) (by omega) dM_units_48 ?_
        refine lv_iconst (pc := 49) (v := iv 3) gX gB dM_units_49 rfl ?_
        refine jv_icmp_eq (pc := 50) (tgt := 63) gX gB dM_units_50 (by decide) (by omega) (by decide) (fun h6 => ?_) (fun h6 => ?_)
        · skip
          exact cut63  _ _ _ (by exact ⟨by omega, Or.inl (by omega)⟩) hl hP hD hS
        refine lv_aload_n (pc := 53) gX gB dM_units_53 rfl (lv_at hl 0 rfl) ?_
        refine va_get (pc := 54) (D := (dC, dI)) (ci := 5) (v := .ref (ad 21)) (C := RM) (T := TM) (N := 24) gX gB hw0 inM hown hK hP 0 rfl rfl 21 (by decide) (hw0 _ q672) (fun _ h9 => h9) rfl dM_units_54 ?_
        refine lv_iload_n (pc := 57) gX gB dM_units_57 rfl (lv_at hl 2 rfl) ?_
        refine jv_iald (pc := 58) gX gB hK hP 16 0 rfl rfl (by decide) (by omega) dM_units_58 ?_
        refine lv_iconst (pc := 59) (v := iv 3) gX gB dM_units_59 rfl ?_
        refine jv_icmp_ne (pc := 60) (tgt := 67) gX gB dM_units_60 (by decide) (by omega) (by decide) (fun h7 => ?_) (fun h7 => ?_)
        · skip
          exact cut67  _ _ _ (by exact fun h => by omega) hl hP hD hS
        exact cut63  _ _ _ (by exact ⟨by omega, Or.inr (by omega)⟩) hl hP hD hS
      have cut12 : ∀ (n0 : Nat) (to : Int) (ls : Array Slot) (H : Heap) (locs : List Loc), (i ≤ to ∧ to ≤ ln + 1) → (∀ j, i ≤ j → j < to → sd j = 5) → ((ln + 1 - to : Int).toNat < n0) → lv_has ls 5 [(0, .ref (ad 0)), (1, .int (iv i)), (2, .int (iv to))] → va_P (dC, dI) vwCl (pM cI cZ cG cR ad th tb fi se lf ct ln tx kl kp fl fo ol ot pl ky nu yk yn lc fw f lw od) H → va_D A0 (pM cI cZ cG cR ad th tb fi se lf ct ln tx kl kp fl fo ol ot pl ky nu yk yn lc fw f lw od) → va_S A0 s0.heap H locs → W p0 l e0 R0 s0 m0 a0 b0 t0 c0 H locs 0 0 Q0 (F0 m0 12 ls []) := by
        intro n0
        induction n0 with
        | zero => intro to ls H locs ht hrun hm hl hP hD hS; exact absurd hm (Nat.not_lt_zero _)
        | succ n0 ih12 =>
          intro to ls H locs ht hrun hm12 hl hP hD hS
          refine lv_iload_n (pc := 12) gX gB dM_units_12 rfl (lv_at hl 2 rfl) ?_
          refine lv_aload_n (pc := 13) gX gB dM_units_13 rfl (lv_at hl 0 rfl) ?_
          refine va_get (pc := 14) (D := (dC, dI)) (ci := 5) (v := .int (iv ln)) (C := RM) (T := TM) (N := 24) gX gB hw0 inM hown hK hP 0 rfl rfl 6 (by decide) (hw0 _ q657) (fun _ h9 => h9) rfl dM_units_14 ?_
          refine jv_icmp_gt (pc := 17) (tgt := 36) gX gB dM_units_17 (by decide) (by omega) (by omega) (fun h8 => ?_) (fun h8 => ?_)
          · skip
            exact cut36 to _ _ _ (by omega) (by exact hrun) (by rw [show to = ln + 1 by omega]; exact hK1) hl hP hD hS
          have hrt := hr9 to (by omega) (by omega)
          have hft := hg.2 to (by omega) (by omega)
          refine lv_aload_n (pc := 20) gX gB dM_units_20 rfl (lv_at hl 0 rfl) ?_
          refine va_get (pc := 21) (D := (dC, dI)) (ci := 5) (v := .ref (ad 21)) (C := RM) (T := TM) (N := 24) gX gB hw0 inM hown hK hP 0 rfl rfl 21 (by decide) (hw0 _ q672) (fun _ h9 => h9) rfl dM_units_21 ?_
          refine lv_iload_n (pc := 24) gX gB dM_units_24 rfl (lv_at hl 2 rfl) ?_
          refine jv_iald (pc := 25) gX gB hK hP 16 0 rfl rfl (by decide) (by omega) dM_units_25 ?_
          refine lv_iconst (pc := 26) (v := iv 5) gX gB dM_units_26 rfl ?_
          refine jv_icmp_ne (pc := 27) (tgt := 36) gX gB dM_units_27 (by decide) (by omega) (by decide) (fun h9 => ?_) (fun h9 => ?_)
          · skip
            exact cut36 to _ _ _ (by omega) (by exact hrun) (by rw [← hft]; assumption) hl hP hD hS
          refine jv_iinc (pc := 30) (k := 2) (x := to) (n := 1) (lv' := [(2, .int (iv (to + 1))), (0, .ref (ad 0)), (1, .int (iv i))]) gX gB dM_units_30 hl rfl (by decide) rfl (fun ls hl => ?_)
          refine lv_goto (pc := 33) (tgt := 12) gX gB dM_units_33 (by decide) ?_
          exact ih12 (to + 1) _ _ _ (by omega) (by intro j a b; by_cases e : j = to; (rw [e, ← hft]; omega); exact hrun j a (by omega)) (by omega) (lv_sub hl [1, 2, 0] rfl) hP hD hS
      exact cut12 (((ln + 1 - i : Int).toNat) + 1) i _ _ _ (by omega) (by intro j a b; omega) (Nat.lt_succ_self _) (lv_sub hl [1, 2, 0] rfl) hP hD hS
  exact cut2 (((ln + 1 - 1 : Int).toNat) + 1) 1 sd _ _ _ (by omega) (by exact stg_0 hB5.2.1) (by exact hB.2.2) (by exact Or.inl hK0) (Nat.lt_succ_self _) (lv_sub hl [1, 0] rfl) hP hD hS
