def pM (cI : ClassId) (cZ : ClassId) (cG : ClassId) (cR : ClassId) (ad : Nat → Nat) (th : Int) (tb : Int → Int) (fi : Int → Int) (se : Int → Int) (lf : Int → Int) (ct : Int → Int) (ln : Int) (tx : Int → Int) (kl : Int → Int) (kp : Int → Int) (fl : Int) (fo : Int → Int) (ol : Int) (ot : Int → Int) (pl : Int → Int) (ky : Int) (nu : Int → Int) (yk : Int) (yn : Int → Int) (lc : Int → Int) (fw : Int → Int) (sd : Int → Int) (lw : Int → Int) (od : Int → Int) : va_W := [(ad 0, .inr (5, [.int (iv th), .ref (ad 1), .ref (ad 2), .ref (ad 3), .ref (ad 4), .ref (ad 5), .int (iv ln), .ref (ad 7), .ref (ad 8), .ref (ad 9), .int (iv fl), .ref (ad 11), .int (iv ol), .ref (ad 13), .ref (ad 14), .int (iv ky), .ref (ad 16), .int (iv yk), .ref (ad 18), .ref (ad 19), .ref (ad 20), .ref (ad 21), .ref (ad 22), .ref (ad 23)])), (ad 1, .inl (cI, 280, .inl (av tb))), (ad 2, .inl (cI, 40, .inl (av fi))), (ad 3, .inl (cI, 40, .inl (av se))), (ad 4, .inl (cZ, 40, .inl (av lf))), (ad 5, .inl (cI, 40, .inl (av ct))), (ad 7, .inl (cI, 40, .inl (av tx))), (ad 8, .inl (cI, 4, .inl (av kl))), (ad 9, .inl (cI, 160, .inl (av kp))), (ad 11, .inl (cI, 170, .inl (av fo))), (ad 13, .inl (cI, 170, .inl (av ot))), (ad 14, .inl (cI, 12, .inl (av pl))), (ad 16, .inl (cI, 520, .inl (av nu))), (ad 18, .inl (cI, 520, .inl (av yn))), (ad 19, .inl (cI, 40, .inl (av lc))), (ad 20, .inl (cZ, 40, .inl (av fw))), (ad 21, .inl (cI, 42, .inl (av sd))), (ad 22, .inl (cI, 40, .inl (av lw))), (ad 23, .inl (cI, 40, .inl (av od)))]
def TBK (tb : Int → Int) : Prop := ∀ c, 0 ≤ c → c < 40 → (0 ≤ tb c ∧ tb c ≤ 254) ∧ (0 ≤ tb (40 + c) ∧ tb (40 + c) ≤ 9) ∧ (0 ≤ tb (80 + c) ∧ tb (80 + c) ≤ 12) ∧ (0 ≤ tb (120 + c) ∧ tb (120 + c) ≤ 11) ∧ (0 ≤ tb (160 + c) ∧ tb (160 + c) ≤ 999) ∧ (0 ≤ tb (200 + c) ∧ tb (200 + c) ≤ 999) ∧ (0 ≤ tb (240 + c) ∧ tb (240 + c) ≤ 999)
def rkM (tb : Int → Int) (c : Int) : Int := if c < 40 then tb c else 0
def czM (tb : Int → Int) (c : Int) : Int := if c < 40 then tb (40 + c) else 0
def lzM (tb : Int → Int) (c : Int) : Int := if c < 40 then tb (80 + c) else 10
def szM (tb : Int → Int) (c : Int) : Int := if c < 40 then tb (120 + c) else 0
def wtM (tb : Int → Int) (k c : Int) : Int := if c < 40 then tb (160 + 40 * k + c) else if k = 0 then 1000 + c else 1
theorem rkM_rng {tb : Int → Int} (h : TBK tb) {c : Int} (h0 : 0 ≤ c) : 0 ≤ rkM tb c ∧ rkM tb c ≤ 254 := by
  unfold rkM
  split
  · exact (h c h0 (by omega)).1
  · omega
theorem czM_rng {tb : Int → Int} (h : TBK tb) {c : Int} (h0 : 0 ≤ c) : 0 ≤ czM tb c ∧ czM tb c ≤ 9 := by
  unfold czM
  split
  · exact (h c h0 (by omega)).2.1
  · omega
theorem lzM_rng {tb : Int → Int} (h : TBK tb) {c : Int} (h0 : 0 ≤ c) : 0 ≤ lzM tb c ∧ lzM tb c ≤ 12 := by
  unfold lzM
  split
  · exact (h c h0 (by omega)).2.2.1
  · omega
theorem szM_rng {tb : Int → Int} (h : TBK tb) {c : Int} (h0 : 0 ≤ c) : 0 ≤ szM tb c ∧ szM tb c ≤ 11 := by
  unfold szM
  split
  · exact (h c h0 (by omega)).2.2.2.1
  · omega
theorem wtM_rng {tb : Int → Int} (h : TBK tb) {k c : Int} (h0 : 0 ≤ c) (h9 : c < 75) (hk : 0 ≤ k ∧ k < 3) : 0 ≤ wtM tb k c ∧ wtM tb k c ≤ 1074 := by
  unfold wtM
  split
  · have := h c h0 (by omega)
    rcases (show k = 0 ∨ k = 1 ∨ k = 2 by omega) with rfl | rfl | rfl
    · have e : (160 + 40 * 0 + c : Int) = 160 + c := by omega
      rw [e]; omega
    · have e : (160 + 40 * 1 + c : Int) = 200 + c := by omega
      rw [e]; omega
    · have e : (160 + 40 * 2 + c : Int) = 240 + c := by omega
      rw [e]; omega
  · split <;> omega
def setOK (c w v : Int) : Prop := 0 ≤ c ∧ c ≤ 39 ∧ 0 ≤ w ∧ w ≤ 6 ∧ 0 ≤ v ∧ ((w = 0 ∧ v ≤ 254) ∨ (w = 1 ∧ v ≤ 9) ∨ (w = 2 ∧ v ≤ 12) ∨ (w = 3 ∧ v ≤ 11) ∨ (4 ≤ w ∧ v ≤ 999))
def partOK (c a b : Int) : Prop := 0 ≤ c ∧ c ≤ 39 ∧ -1 ≤ a ∧ a < c ∧ -1 ≤ b ∧ b < c ∧ (a < 0 → b < 0)
theorem all_succ {P : Int → Prop} {c : Int} (h : ∀ j, 0 ≤ j → j < c → P j) (h1 : P c) : ∀ j, 0 ≤ j → j < c + 1 → P j := fun j a b => by
  by_cases e : j = c
  · rw [e]; exact h1
  · exact h j a (by omega)
theorem KC_step {fi se : Int → Int} (h : vpt fi se) {c x y : Int} (h0 : 0 ≤ c) (h1 : c < 40) (hx : (fi c < 0 ∧ x = 1) ∨ (0 ≤ fi c ∧ se c < 0 ∧ x = KC fi se (fi c)) ∨ (0 ≤ fi c ∧ 0 ≤ se c ∧ x = KC fi se (fi c) + KC fi se (se c))) (hy : (x ≤ 5 ∧ y = x) ∨ (5 < x ∧ y = 5)) : y = KC fi se c := by
  rcases hx with ⟨a, b⟩ | ⟨a, b, d⟩ | ⟨a, b, d⟩
  · rw [KC_none a]; omega
  · rw [KC_parts h h0 h1 a, if_neg (by omega)]; omega
  · rw [KC_parts h h0 h1 a, if_pos b]; omega
theorem KC_rng {fi se : Int → Int} (h : vpt fi se) : ∀ (n : Nat) (c : Int), 0 ≤ c → c < n → c < 40 → 1 ≤ KC fi se c ∧ KC fi se c ≤ 5 := by
  intro n
  induction n with
  | zero => intro c h0 h1; omega
  | succ n ih =>
    intro c h0 h1 h2
    have hv := h c h0 h2
    by_cases hf : 0 ≤ fi c
    · rw [KC_parts h h0 h2 hf]
      have i1 := ih (fi c) hf (by omega) (by omega)
      split
      · rename_i hs
        have i2 := ih (se c) hs (by omega) (by omega)
        omega
      · omega
    · rw [KC_none (by omega)]; omega
set_option maxRecDepth 100000 in
set_option maxHeartbeats 1000000 in
theorem c_M_thrown (l : Launch) (dC : Nat → ClassId) (dI : Nat → Nat → Nat) (cI : ClassId) (cZ : ClassId) (cG : ClassId) (cR : ClassId) (ad : Nat → Nat) (th : Int) (tb : Int → Int) (fi : Int → Int) (se : Int → Int) (lf : Int → Int) (ct : Int → Int) (ln : Int) (tx : Int → Int) (kl : Int → Int) (kp : Int → Int) (fl : Int) (fo : Int → Int) (ol : Int) (ot : Int → Int) (pl : Int → Int) (ky : Int) (nu : Int → Int) (yk : Int) (yn : Int → Int) (lc : Int → Int) (fw : Int → Int) (sd : Int → Int) (lw : Int → Int) (od : Int → Int) (sz : Nat) : Met l yM_thrown wsM_thrown ({ frames := 0, cells := 0, slots := 0, locals := 0 }) (va_Pc [.ref (ad 0)] (jPre (dC, dI) (jT cI cZ cG cR) (pM cI cZ cG cR ad th tb fi se lf ct ln tx kl kp fl fo ol ot pl ky nu yk yn lc fw sd lw od) sz)) (va_Qi (fun (r0 : Int32) (u : Int) => r0 = iv u ∧ (u = th)) (fun u => jEnd (dC, dI) (jT cI cZ cG cR) (va_A (pM cI cZ cG cR ad th tb fi se lf ct ln tx kl kp fl fo ol ot pl ky nu yk yn lc fw sd lw od) sz) (pM cI cZ cG cR ad th tb fi se lf ct ln tx kl kp fl fo ol ot pl ky nu yk yn lc fw sd lw od)) (va_A (pM cI cZ cG cR ad th tb fi se lf ct ln tx kl kp fl fo ol ot pl ky nu yk yn lc fw sd lw od) sz)) 0 0 (va_A (pM cI cZ cG cR ad th tb fi se lf ct ln tx kl kp fl fo ol ot pl ky nu yk yn lc fw sd lw od) sz) := by
  refine jv_mi (cc := cM_thrown) (maxL := 1) (by decide) rfl (Nat.le_of_ble_eq_true rfl) ?_
  intro p0 e0 s0 m0 a0 b0 t0 c0 R0 Q0 A0 ls gX gB hts hown hml hRf hRl hA hK hret hl hP hD hS
  have hown : s0.vm.findClass "TextPipelineModel" = some m0.cls := hown
  have hw0 : ∀ w ∈ WS0, w.before a0 s0 = true := fun w h => hts w (List.mem_cons_of_mem _ h)
  have hl : lv_has ls 1 [(0, .ref (ad 0))] := hl
  have hRf : 0 ≤ R0.frames := hRf
  have hRl : 0 ≤ R0.locals := hRl
  refine lv_aload_n (pc := 0) gX gB dM_thrown_0 rfl (lv_at hl 0 rfl) ?_
  refine va_get (pc := 1) (D := (dC, dI)) (ci := 5) (v := .int (iv th)) (C := RM) (T := TM) (N := 24) gX gB hw0 inM hown hK hP 0 rfl rfl 0 (by decide) (hw0 _ q651) (fun _ h9 => h9) rfl dM_thrown_1 ?_
  exact hret _ (th) dM_thrown_4 ⟨rfl, by omega⟩ hP hD hS
set_option maxRecDepth 100000 in
set_option maxHeartbeats 1000000 in
theorem c_M_property (l : Launch) (dC : Nat → ClassId) (dI : Nat → Nat → Nat) (cI : ClassId) (cZ : ClassId) (cG : ClassId) (cR : ClassId) (ad : Nat → Nat) (th : Int) (tb : Int → Int) (fi : Int → Int) (se : Int → Int) (lf : Int → Int) (ct : Int → Int) (ln : Int) (tx : Int → Int) (kl : Int → Int) (kp : Int → Int) (fl : Int) (fo : Int → Int) (ol : Int) (ot : Int → Int) (pl : Int → Int) (ky : Int) (nu : Int → Int) (yk : Int) (yn : Int → Int) (lc : Int → Int) (fw : Int → Int) (sd : Int → Int) (lw : Int → Int) (od : Int → Int) (sz : Nat) (c : Int) (w : Int) (hp : 0 ≤ c ∧ c < 40 ∧ 0 ≤ w ∧ w < 7) : Met l yM_property wsM_property ({ frames := 0, cells := 0, slots := 0, locals := 0 }) (va_Pc [.ref (ad 0), .int (iv c), .int (iv w)] (jPre (dC, dI) (jT cI cZ cG cR) (pM cI cZ cG cR ad th tb fi se lf ct ln tx kl kp fl fo ol ot pl ky nu yk yn lc fw sd lw od) sz)) (va_Qi (fun (r0 : Int32) (u : Int) => r0 = iv u ∧ (u = tb (40 * w + c))) (fun u => jEnd (dC, dI) (jT cI cZ cG cR) (va_A (pM cI cZ cG cR ad th tb fi se lf ct ln tx kl kp fl fo ol ot pl ky nu yk yn lc fw sd lw od) sz) (pM cI cZ cG cR ad th tb fi se lf ct ln tx kl kp fl fo ol ot pl ky nu yk yn lc fw sd lw od)) (va_A (pM cI cZ cG cR ad th tb fi se lf ct ln tx kl kp fl fo ol ot pl ky nu yk yn lc fw sd lw od) sz)) 0 0 (va_A (pM cI cZ cG cR ad th tb fi se lf ct ln tx kl kp fl fo ol ot pl ky nu yk yn lc fw sd lw od) sz) := by
  refine jv_mi (cc := cM_property) (maxL := 3) (by decide) rfl (Nat.le_of_ble_eq_true rfl) ?_
  intro p0 e0 s0 m0 a0 b0 t0 c0 R0 Q0 A0 ls gX gB hts hown hml hRf hRl hA hK hret hl hP hD hS
  have hown : s0.vm.findClass "TextPipelineModel" = some m0.cls := hown
  have hw0 : ∀ w ∈ WS0, w.before a0 s0 = true := fun w h => hts w (List.mem_cons_of_mem _ h)
  have hl : lv_has ls 3 [(0, .ref (ad 0)), (1, .int (iv c)), (2, .int (iv w))] := hl
  have hRf : 0 ≤ R0.frames := hRf
  have hRl : 0 ≤ R0.locals := hRl
  refine lv_aload_n (pc := 0) gX gB dM_property_0 rfl (lv_at hl 0 rfl) ?_
  refine va_get (pc := 1) (D := (dC, dI)) (ci := 5) (v := .ref (ad 1)) (C := RM) (T := TM) (N := 24) gX gB hw0 inM hown hK hP 0 rfl rfl 1 (by decide) (hw0 _ q652) (fun _ h9 => h9) rfl dM_property_1 ?_
  refine lv_bipush (pc := 4) (v := iv 40) gX gB dM_property_4 (by decide) ?_
  refine lv_iload_n (pc := 6) gX gB dM_property_6 rfl (lv_at hl 2 rfl) ?_
  refine jv_imul (pc := 7) (x := 40) (y := w) gX gB dM_property_7 ?_
  refine lv_iload_n (pc := 8) gX gB dM_property_8 rfl (lv_at hl 1 rfl) ?_
  refine jv_iadd (pc := 9) (x := 40 * w) (y := c) gX gB dM_property_9 ?_
  refine jv_iald (pc := 10) gX gB hK hP 1 0 rfl rfl (by decide) (by omega) dM_property_10 ?_
  exact hret _ (tb ((40 * w) + c)) dM_property_11 ⟨rfl, by rfl⟩ hP hD hS
set_option maxRecDepth 100000 in
set_option maxHeartbeats 1000000 in
theorem c_M_rank (l : Launch) (dC : Nat → ClassId) (dI : Nat → Nat → Nat) (cI : ClassId) (cZ : ClassId) (cG : ClassId) (cR : ClassId) (ad : Nat → Nat) (th : Int) (tb : Int → Int) (fi : Int → Int) (se : Int → Int) (lf : Int → Int) (ct : Int → Int) (ln : Int) (tx : Int → Int) (kl : Int → Int) (kp : Int → Int) (fl : Int) (fo : Int → Int) (ol : Int) (ot : Int → Int) (pl : Int → Int) (ky : Int) (nu : Int → Int) (yk : Int) (yn : Int → Int) (lc : Int → Int) (fw : Int → Int) (sd : Int → Int) (lw : Int → Int) (od : Int → Int) (sz : Nat) (c : Int) (hp : 0 ≤ c ∧ c < 75) (hT : TBK tb) : Met l yM_rank wsM_rank ({ frames := 1, cells := 0, slots := 0, locals := 22 }) (va_Pc [.ref (ad 0), .int (iv c)] (jPre (dC, dI) (jT cI cZ cG cR) (pM cI cZ cG cR ad th tb fi se lf ct ln tx kl kp fl fo ol ot pl ky nu yk yn lc fw sd lw od) sz)) (va_Qi (fun (r0 : Int32) (u : Int) => r0 = iv u ∧ (u = rkM tb c ∧ 0 ≤ u ∧ u ≤ 254)) (fun u => jEnd (dC, dI) (jT cI cZ cG cR) (va_A (pM cI cZ cG cR ad th tb fi se lf ct ln tx kl kp fl fo ol ot pl ky nu yk yn lc fw sd lw od) sz) (pM cI cZ cG cR ad th tb fi se lf ct ln tx kl kp fl fo ol ot pl ky nu yk yn lc fw sd lw od)) (va_A (pM cI cZ cG cR ad th tb fi se lf ct ln tx kl kp fl fo ol ot pl ky nu yk yn lc fw sd lw od) sz)) 0 0 (va_A (pM cI cZ cG cR ad th tb fi se lf ct ln tx kl kp fl fo ol ot pl ky nu yk yn lc fw sd lw od) sz) := by
  refine jv_mi (cc := cM_rank) (maxL := 2) (by decide) rfl (Nat.le_of_ble_eq_true rfl) ?_
  intro p0 e0 s0 m0 a0 b0 t0 c0 R0 Q0 A0 ls gX gB hts hown hml hRf hRl hA hK hret hl hP hD hS
  have hown : s0.vm.findClass "TextPipelineModel" = some m0.cls := hown
  have hw0 : ∀ w ∈ WS0, w.before a0 s0 = true := fun w h => hts w (List.mem_cons_of_mem _ h)
  have hl : lv_has ls 2 [(0, .ref (ad 0)), (1, .int (iv c))] := hl
  have hRf : 1 ≤ R0.frames := hRf
  have hRl : 22 ≤ R0.locals := hRl
  refine lv_iload_n (pc := 0) gX gB dM_rank_0 rfl (lv_at hl 1 rfl) ?_
  refine lv_bipush (pc := 1) (v := iv 40) gX gB dM_rank_1 (by decide) ?_
  refine jv_icmp_ge (pc := 3) (tgt := 15) gX gB dM_rank_3 (by decide) (by omega) (by decide) (fun h1 => ?_) (fun h1 => ?_)
  · skip
    refine lv_iconst (pc := 15) (v := iv 0) gX gB dM_rank_15 rfl ?_
    exact hret _ (0) dM_rank_16 ⟨rfl, by have h9 := rkM_rng hT (c := c) (by omega); first | (have hq : r_9 = rkM tb c := (by unfold rkM; rw [if_pos (by omega), hw9]; congr 1; try omega); exact ⟨hq, by omega⟩) | (have hq : (0 : Int) = rkM tb c := (by unfold rkM; rw [if_neg (by omega)]); exact ⟨hq, by omega⟩)⟩ hP hD hS
  refine lv_aload_n (pc := 6) gX gB dM_rank_6 rfl (lv_at hl 0 rfl) ?_
  refine lv_iload_n (pc := 7) gX gB dM_rank_7 rfl (lv_at hl 1 rfl) ?_
  refine lv_iconst (pc := 8) (v := iv 0) gX gB dM_rank_8 rfl ?_
  refine jv_ri (pc := 9) (wr := []) (wn := fun u : Int => (pM cI cZ cG cR ad th tb fi se lf ct ln tx kl kp fl fo ol ot pl ky nu yk yn lc fw sd lw od)) (va_runV (rest := []) ⟨gX, gB, hml, hown, hw0⟩ (c_M_property l dC dI cI cZ cG cR ad th tb fi se lf ct ln tx kl kp fl fo ol ot pl ky nu yk yn lc fw sd lw od _ c 0 (by omega)) (jcV hw0 kM_property q780 rfl rfl ⟨Nat.le_trans (Nat.le_of_ble_eq_true rfl) hRf, Nat.le_trans (Nat.le_of_ble_eq_true rfl) hRl⟩) (jv_preV (ci := 5) (q0 := 0) hK hP hD [0, 1, 2, 3, 4, 5, 6, 7, 8, 9, 10, 11, 12, 13, 14, 15, 16, 17, 18] rfl (by decide) rfl rfl) rfl rfl hl.1 rfl (lv_room (Nat.le_of_ble_eq_true rfl)) dM_rank_9 ⟨Nat.zero_le _, Nat.zero_le _⟩) hP hD hS hA [0, 1, 2, 3, 4, 5, 6, 7, 8, 9, 10, 11, 12, 13, 14, 15, 16, 17, 18] [] [0, 1, 2, 3, 4, 5, 6, 7, 8, 9, 10, 11, 12, 13, 14, 15, 16, 17, 18] rfl rfl (by decide) (by decide) (by decide) (fun _ => rfl) (fun r0 u H locs hw9 hP hD hS => ?_)
  obtain ⟨r_9, hu⟩ : ∃ z, z = u := ⟨_, rfl⟩; subst hu
  obtain ⟨rfl, hw9⟩ := hw9
  refine lv_goto (pc := 12) (tgt := 16) gX gB dM_rank_12 (by decide) ?_
  exact hret _ (r_9) dM_rank_16 ⟨rfl, by have h9 := rkM_rng hT (c := c) (by omega); first | (have hq : r_9 = rkM tb c := (by unfold rkM; rw [if_pos (by omega), hw9]; congr 1; try omega); exact ⟨hq, by omega⟩) | (have hq : (0 : Int) = rkM tb c := (by unfold rkM; rw [if_neg (by omega)]); exact ⟨hq, by omega⟩)⟩ hP hD hS
set_option maxRecDepth 100000 in
set_option maxHeartbeats 1000000 in
theorem c_M_clusterOf (l : Launch) (dC : Nat → ClassId) (dI : Nat → Nat → Nat) (cI : ClassId) (cZ : ClassId) (cG : ClassId) (cR : ClassId) (ad : Nat → Nat) (th : Int) (tb : Int → Int) (fi : Int → Int) (se : Int → Int) (lf : Int → Int) (ct : Int → Int) (ln : Int) (tx : Int → Int) (kl : Int → Int) (kp : Int → Int) (fl : Int) (fo : Int → Int) (ol : Int) (ot : Int → Int) (pl : Int → Int) (ky : Int) (nu : Int → Int) (yk : Int) (yn : Int → Int) (lc : Int → Int) (fw : Int → Int) (sd : Int → Int) (lw : Int → Int) (od : Int → Int) (sz : Nat) (c : Int) (hp : 0 ≤ c ∧ c < 75) (hT : TBK tb) : Met l yM_clusterOf wsM_clusterOf ({ frames := 1, cells := 0, slots := 0, locals := 22 }) (va_Pc [.ref (ad 0), .int (iv c)] (jPre (dC, dI) (jT cI cZ cG cR) (pM cI cZ cG cR ad th tb fi se lf ct ln tx kl kp fl fo ol ot pl ky nu yk yn lc fw sd lw od) sz)) (va_Qi (fun (r0 : Int32) (u : Int) => r0 = iv u ∧ (u = czM tb c ∧ 0 ≤ u ∧ u ≤ 9)) (fun u => jEnd (dC, dI) (jT cI cZ cG cR) (va_A (pM cI cZ cG cR ad th tb fi se lf ct ln tx kl kp fl fo ol ot pl ky nu yk yn lc fw sd lw od) sz) (pM cI cZ cG cR ad th tb fi se lf ct ln tx kl kp fl fo ol ot pl ky nu yk yn lc fw sd lw od)) (va_A (pM cI cZ cG cR ad th tb fi se lf ct ln tx kl kp fl fo ol ot pl ky nu yk yn lc fw sd lw od) sz)) 0 0 (va_A (pM cI cZ cG cR ad th tb fi se lf ct ln tx kl kp fl fo ol ot pl ky nu yk yn lc fw sd lw od) sz) := by
  refine jv_mi (cc := cM_clusterOf) (maxL := 2) (by decide) rfl (Nat.le_of_ble_eq_true rfl) ?_
  intro p0 e0 s0 m0 a0 b0 t0 c0 R0 Q0 A0 ls gX gB hts hown hml hRf hRl hA hK hret hl hP hD hS
  have hown : s0.vm.findClass "TextPipelineModel" = some m0.cls := hown
  have hw0 : ∀ w ∈ WS0, w.before a0 s0 = true := fun w h => hts w (List.mem_cons_of_mem _ h)
  have hl : lv_has ls 2 [(0, .ref (ad 0)), (1, .int (iv c))] := hl
  have hRf : 1 ≤ R0.frames := hRf
  have hRl : 22 ≤ R0.locals := hRl
  refine lv_iload_n (pc := 0) gX gB dM_clusterOf_0 rfl (lv_at hl 1 rfl) ?_
  refine lv_bipush (pc := 1) (v := iv 40) gX gB dM_clusterOf_1 (by decide) ?_
  refine jv_icmp_ge (pc := 3) (tgt := 15) gX gB dM_clusterOf_3 (by decide) (by omega) (by decide) (fun h1 => ?_) (fun h1 => ?_)
  · skip
    refine lv_iconst (pc := 15) (v := iv 0) gX gB dM_clusterOf_15 rfl ?_
    exact hret _ (0) dM_clusterOf_16 ⟨rfl, by have h9 := czM_rng hT (c := c) (by omega); first | (have hq : r_9 = czM tb c := (by unfold czM; rw [if_pos (by omega), hw9]; congr 1; try omega); exact ⟨hq, by omega⟩) | (have hq : (0 : Int) = czM tb c := (by unfold czM; rw [if_neg (by omega)]); exact ⟨hq, by omega⟩)⟩ hP hD hS
  refine lv_aload_n (pc := 6) gX gB dM_clusterOf_6 rfl (lv_at hl 0 rfl) ?_
  refine lv_iload_n (pc := 7) gX gB dM_clusterOf_7 rfl (lv_at hl 1 rfl) ?_
  refine lv_iconst (pc := 8) (v := iv 1) gX gB dM_clusterOf_8 rfl ?_
  refine jv_ri (pc := 9) (wr := []) (wn := fun u : Int => (pM cI cZ cG cR ad th tb fi se lf ct ln tx kl kp fl fo ol ot pl ky nu yk yn lc fw sd lw od)) (va_runV (rest := []) ⟨gX, gB, hml, hown, hw0⟩ (c_M_property l dC dI cI cZ cG cR ad th tb fi se lf ct ln tx kl kp fl fo ol ot pl ky nu yk yn lc fw sd lw od _ c 1 (by omega)) (jcV hw0 kM_property q780 rfl rfl ⟨Nat.le_trans (Nat.le_of_ble_eq_true rfl) hRf, Nat.le_trans (Nat.le_of_ble_eq_true rfl) hRl⟩) (jv_preV (ci := 5) (q0 := 0) hK hP hD [0, 1, 2, 3, 4, 5, 6, 7, 8, 9, 10, 11, 12, 13, 14, 15, 16, 17, 18] rfl (by decide) rfl rfl) rfl rfl hl.1 rfl (lv_room (Nat.le_of_ble_eq_true rfl)) dM_clusterOf_9 ⟨Nat.zero_le _, Nat.zero_le _⟩) hP hD hS hA [0, 1, 2, 3, 4, 5, 6, 7, 8, 9, 10, 11, 12, 13, 14, 15, 16, 17, 18] [] [0, 1, 2, 3, 4, 5, 6, 7, 8, 9, 10, 11, 12, 13, 14, 15, 16, 17, 18] rfl rfl (by decide) (by decide) (by decide) (fun _ => rfl) (fun r0 u H locs hw9 hP hD hS => ?_)
  obtain ⟨r_9, hu⟩ : ∃ z, z = u := ⟨_, rfl⟩; subst hu
  obtain ⟨rfl, hw9⟩ := hw9
  refine lv_goto (pc := 12) (tgt := 16) gX gB dM_clusterOf_12 (by decide) ?_
  exact hret _ (r_9) dM_clusterOf_16 ⟨rfl, by have h9 := czM_rng hT (c := c) (by omega); first | (have hq : r_9 = czM tb c := (by unfold czM; rw [if_pos (by omega), hw9]; congr 1; try omega); exact ⟨hq, by omega⟩) | (have hq : (0 : Int) = czM tb c := (by unfold czM; rw [if_neg (by omega)]); exact ⟨hq, by omega⟩)⟩ hP hD hS
set_option maxRecDepth 100000 in
set_option maxHeartbeats 1000000 in
theorem c_M_sideOf (l : Launch) (dC : Nat → ClassId) (dI : Nat → Nat → Nat) (cI : ClassId) (cZ : ClassId) (cG : ClassId) (cR : ClassId) (ad : Nat → Nat) (th : Int) (tb : Int → Int) (fi : Int → Int) (se : Int → Int) (lf : Int → Int) (ct : Int → Int) (ln : Int) (tx : Int → Int) (kl : Int → Int) (kp : Int → Int) (fl : Int) (fo : Int → Int) (ol : Int) (ot : Int → Int) (pl : Int → Int) (ky : Int) (nu : Int → Int) (yk : Int) (yn : Int → Int) (lc : Int → Int) (fw : Int → Int) (sd : Int → Int) (lw : Int → Int) (od : Int → Int) (sz : Nat) (c : Int) (hp : 0 ≤ c ∧ c < 75) (hT : TBK tb) : Met l yM_sideOf wsM_sideOf ({ frames := 1, cells := 0, slots := 0, locals := 22 }) (va_Pc [.ref (ad 0), .int (iv c)] (jPre (dC, dI) (jT cI cZ cG cR) (pM cI cZ cG cR ad th tb fi se lf ct ln tx kl kp fl fo ol ot pl ky nu yk yn lc fw sd lw od) sz)) (va_Qi (fun (r0 : Int32) (u : Int) => r0 = iv u ∧ (u = szM tb c ∧ 0 ≤ u ∧ u ≤ 11)) (fun u => jEnd (dC, dI) (jT cI cZ cG cR) (va_A (pM cI cZ cG cR ad th tb fi se lf ct ln tx kl kp fl fo ol ot pl ky nu yk yn lc fw sd lw od) sz) (pM cI cZ cG cR ad th tb fi se lf ct ln tx kl kp fl fo ol ot pl ky nu yk yn lc fw sd lw od)) (va_A (pM cI cZ cG cR ad th tb fi se lf ct ln tx kl kp fl fo ol ot pl ky nu yk yn lc fw sd lw od) sz)) 0 0 (va_A (pM cI cZ cG cR ad th tb fi se lf ct ln tx kl kp fl fo ol ot pl ky nu yk yn lc fw sd lw od) sz) := by
  refine jv_mi (cc := cM_sideOf) (maxL := 2) (by decide) rfl (Nat.le_of_ble_eq_true rfl) ?_
  intro p0 e0 s0 m0 a0 b0 t0 c0 R0 Q0 A0 ls gX gB hts hown hml hRf hRl hA hK hret hl hP hD hS
  have hown : s0.vm.findClass "TextPipelineModel" = some m0.cls := hown
  have hw0 : ∀ w ∈ WS0, w.before a0 s0 = true := fun w h => hts w (List.mem_cons_of_mem _ h)
  have hl : lv_has ls 2 [(0, .ref (ad 0)), (1, .int (iv c))] := hl
  have hRf : 1 ≤ R0.frames := hRf
  have hRl : 22 ≤ R0.locals := hRl
  refine lv_iload_n (pc := 0) gX gB dM_sideOf_0 rfl (lv_at hl 1 rfl) ?_
  refine lv_bipush (pc := 1) (v := iv 40) gX gB dM_sideOf_1 (by decide) ?_
  refine jv_icmp_ge (pc := 3) (tgt := 15) gX gB dM_sideOf_3 (by decide) (by omega) (by decide) (fun h1 => ?_) (fun h1 => ?_)
  · skip
    refine lv_iconst (pc := 15) (v := iv 0) gX gB dM_sideOf_15 rfl ?_
    exact hret _ (0) dM_sideOf_16 ⟨rfl, by have h9 := szM_rng hT (c := c) (by omega); first | (have hq : r_9 = szM tb c := (by unfold szM; rw [if_pos (by omega), hw9]; congr 1; try omega); exact ⟨hq, by omega⟩) | (have hq : (0 : Int) = szM tb c := (by unfold szM; rw [if_neg (by omega)]); exact ⟨hq, by omega⟩)⟩ hP hD hS
  refine lv_aload_n (pc := 6) gX gB dM_sideOf_6 rfl (lv_at hl 0 rfl) ?_
  refine lv_iload_n (pc := 7) gX gB dM_sideOf_7 rfl (lv_at hl 1 rfl) ?_
  refine lv_iconst (pc := 8) (v := iv 3) gX gB dM_sideOf_8 rfl ?_
  refine jv_ri (pc := 9) (wr := []) (wn := fun u : Int => (pM cI cZ cG cR ad th tb fi se lf ct ln tx kl kp fl fo ol ot pl ky nu yk yn lc fw sd lw od)) (va_runV (rest := []) ⟨gX, gB, hml, hown, hw0⟩ (c_M_property l dC dI cI cZ cG cR ad th tb fi se lf ct ln tx kl kp fl fo ol ot pl ky nu yk yn lc fw sd lw od _ c 3 (by omega)) (jcV hw0 kM_property q780 rfl rfl ⟨Nat.le_trans (Nat.le_of_ble_eq_true rfl) hRf, Nat.le_trans (Nat.le_of_ble_eq_true rfl) hRl⟩) (jv_preV (ci := 5) (q0 := 0) hK hP hD [0, 1, 2, 3, 4, 5, 6, 7, 8, 9, 10, 11, 12, 13, 14, 15, 16, 17, 18] rfl (by decide) rfl rfl) rfl rfl hl.1 rfl (lv_room (Nat.le_of_ble_eq_true rfl)) dM_sideOf_9 ⟨Nat.zero_le _, Nat.zero_le _⟩) hP hD hS hA [0, 1, 2, 3, 4, 5, 6, 7, 8, 9, 10, 11, 12, 13, 14, 15, 16, 17, 18] [] [0, 1, 2, 3, 4, 5, 6, 7, 8, 9, 10, 11, 12, 13, 14, 15, 16, 17, 18] rfl rfl (by decide) (by decide) (by decide) (fun _ => rfl) (fun r0 u H locs hw9 hP hD hS => ?_)
  obtain ⟨r_9, hu⟩ : ∃ z, z = u := ⟨_, rfl⟩; subst hu
  obtain ⟨rfl, hw9⟩ := hw9
  refine lv_goto (pc := 12) (tgt := 16) gX gB dM_sideOf_12 (by decide) ?_
  exact hret _ (r_9) dM_sideOf_16 ⟨rfl, by have h9 := szM_rng hT (c := c) (by omega); first | (have hq : r_9 = szM tb c := (by unfold szM; rw [if_pos (by omega), hw9]; congr 1; try omega); exact ⟨hq, by omega⟩) | (have hq : (0 : Int) = szM tb c := (by unfold szM; rw [if_neg (by omega)]); exact ⟨hq, by omega⟩)⟩ hP hD hS
set_option maxRecDepth 100000 in
set_option maxHeartbeats 1000000 in
theorem c_M_weight (l : Launch) (dC : Nat → ClassId) (dI : Nat → Nat → Nat) (cI : ClassId) (cZ : ClassId) (cG : ClassId) (cR : ClassId) (ad : Nat → Nat) (th : Int) (tb : Int → Int) (fi : Int → Int) (se : Int → Int) (lf : Int → Int) (ct : Int → Int) (ln : Int) (tx : Int → Int) (kl : Int → Int) (kp : Int → Int) (fl : Int) (fo : Int → Int) (ol : Int) (ot : Int → Int) (pl : Int → Int) (ky : Int) (nu : Int → Int) (yk : Int) (yn : Int → Int) (lc : Int → Int) (fw : Int → Int) (sd : Int → Int) (lw : Int → Int) (od : Int → Int) (sz : Nat) (c : Int) (k : Int) (hp : 0 ≤ c ∧ c < 75) (hk : 0 ≤ k ∧ k < 3) (hT : TBK tb) : Met l yM_weight wsM_weight ({ frames := 1, cells := 0, slots := 0, locals := 22 }) (va_Pc [.ref (ad 0), .int (iv c), .int (iv k)] (jPre (dC, dI) (jT cI cZ cG cR) (pM cI cZ cG cR ad th tb fi se lf ct ln tx kl kp fl fo ol ot pl ky nu yk yn lc fw sd lw od) sz)) (va_Qi (fun (r0 : Int32) (u : Int) => r0 = iv u ∧ (u = wtM tb k c ∧ 0 ≤ u ∧ u ≤ 1074)) (fun u => jEnd (dC, dI) (jT cI cZ cG cR) (va_A (pM cI cZ cG cR ad th tb fi se lf ct ln tx kl kp fl fo ol ot pl ky nu yk yn lc fw sd lw od) sz) (pM cI cZ cG cR ad th tb fi se lf ct ln tx kl kp fl fo ol ot pl ky nu yk yn lc fw sd lw od)) (va_A (pM cI cZ cG cR ad th tb fi se lf ct ln tx kl kp fl fo ol ot pl ky nu yk yn lc fw sd lw od) sz)) 0 0 (va_A (pM cI cZ cG cR ad th tb fi se lf ct ln tx kl kp fl fo ol ot pl ky nu yk yn lc fw sd lw od) sz) := by
  refine jv_mi (cc := cM_weight) (maxL := 3) (by decide) rfl (Nat.le_of_ble_eq_true rfl) ?_
  intro p0 e0 s0 m0 a0 b0 t0 c0 R0 Q0 A0 ls gX gB hts hown hml hRf hRl hA hK hret hl hP hD hS
  have hown : s0.vm.findClass "TextPipelineModel" = some m0.cls := hown
  have hw0 : ∀ w ∈ WS0, w.before a0 s0 = true := fun w h => hts w (List.mem_cons_of_mem _ h)
  have hl : lv_has ls 3 [(0, .ref (ad 0)), (1, .int (iv c)), (2, .int (iv k))] := hl
  have hRf : 1 ≤ R0.frames := hRf
  have hRl : 22 ≤ R0.locals := hRl
  have hr9 := wtM_rng hT (c := c) (k := k) (by omega) (by omega) hk
  refine lv_iload_n (pc := 0) gX gB dM_weight_0 rfl (lv_at hl 1 rfl) ?_
  refine lv_bipush (pc := 1) (v := iv 40) gX gB dM_weight_1 (by decide) ?_
  refine jv_icmp_ge (pc := 3) (tgt := 17) gX gB dM_weight_3 (by decide) (by omega) (by decide) (fun h1 => ?_) (fun h1 => ?_)
  · skip
    refine lv_iload_n (pc := 17) gX gB dM_weight_17 rfl (lv_at hl 2 rfl) ?_
    refine jv_if_ne (pc := 18) (tgt := 29) gX gB dM_weight_18 (by decide) (by omega) (fun h2 => ?_) (fun h2 => ?_)
    · skip
      refine lv_iconst (pc := 29) (v := iv 1) gX gB dM_weight_29 rfl ?_
      exact hret _ (1) dM_weight_30 ⟨rfl, by first | (have e : r_11 = wtM tb k c := (by unfold wtM; rw [if_pos (by omega), hw11]; congr 1; omega); exact ⟨e, by omega⟩) | (have e : (1000 + c : Int) = wtM tb k c := (by unfold wtM; rw [if_neg (by omega), if_pos (by omega)]); exact ⟨e, by omega⟩) | (have e : (1 : Int) = wtM tb k c := (by unfold wtM; rw [if_neg (by omega), if_neg (by omega)]); exact ⟨e, by omega⟩)⟩ hP hD hS
    refine lv_sipush (pc := 21) (v := iv 1000) gX gB dM_weight_21 (by decide) ?_
    refine lv_iload_n (pc := 24) gX gB dM_weight_24 rfl (lv_at hl 1 rfl) ?_
    refine jv_iadd (pc := 25) (x := 1000) (y := c) gX gB dM_weight_25 ?_
    refine lv_goto (pc := 26) (tgt := 30) gX gB dM_weight_26 (by decide) ?_
    exact hret _ (1000 + c) dM_weight_30 ⟨rfl, by first | (have e : r_11 = wtM tb k c := (by unfold wtM; rw [if_pos (by omega), hw11]; congr 1; omega); exact ⟨e, by omega⟩) | (have e : (1000 + c : Int) = wtM tb k c := (by unfold wtM; rw [if_neg (by omega), if_pos (by omega)]); exact ⟨e, by omega⟩) | (have e : (1 : Int) = wtM tb k c := (by unfold wtM; rw [if_neg (by omega), if_neg (by omega)]); exact ⟨e, by omega⟩)⟩ hP hD hS
  refine lv_aload_n (pc := 6) gX gB dM_weight_6 rfl (lv_at hl 0 rfl) ?_
  refine lv_iload_n (pc := 7) gX gB dM_weight_7 rfl (lv_at hl 1 rfl) ?_
  refine lv_iconst (pc := 8) (v := iv 4) gX gB dM_weight_8 rfl ?_
  refine lv_iload_n (pc := 9) gX gB dM_weight_9 rfl (lv_at hl 2 rfl) ?_
  refine jv_iadd (pc := 10) (x := 4) (y := k) gX gB dM_weight_10 ?_
  refine jv_ri (pc := 11) (wr := []) (wn := fun u : Int => (pM cI cZ cG cR ad th tb fi se lf ct ln tx kl kp fl fo ol ot pl ky nu yk yn lc fw sd lw od)) (va_runV (rest := []) ⟨gX, gB, hml, hown, hw0⟩ (c_M_property l dC dI cI cZ cG cR ad th tb fi se lf ct ln tx kl kp fl fo ol ot pl ky nu yk yn lc fw sd lw od _ c (4 + k) (by omega)) (jcV hw0 kM_property q780 rfl rfl ⟨Nat.le_trans (Nat.le_of_ble_eq_true rfl) hRf, Nat.le_trans (Nat.le_of_ble_eq_true rfl) hRl⟩) (jv_preV (ci := 5) (q0 := 0) hK hP hD [0, 1, 2, 3, 4, 5, 6, 7, 8, 9, 10, 11, 12, 13, 14, 15, 16, 17, 18] rfl (by decide) rfl rfl) rfl rfl hl.1 rfl (lv_room (Nat.le_of_ble_eq_true rfl)) dM_weight_11 ⟨Nat.zero_le _, Nat.zero_le _⟩) hP hD hS hA [0, 1, 2, 3, 4, 5, 6, 7, 8, 9, 10, 11, 12, 13, 14, 15, 16, 17, 18] [] [0, 1, 2, 3, 4, 5, 6, 7, 8, 9, 10, 11, 12, 13, 14, 15, 16, 17, 18] rfl rfl (by decide) (by decide) (by decide) (fun _ => rfl) (fun r0 u H locs hw11 hP hD hS => ?_)
  obtain ⟨r_11, hu⟩ : ∃ z, z = u := ⟨_, rfl⟩; subst hu
  obtain ⟨rfl, hw11⟩ := hw11
  refine lv_goto (pc := 14) (tgt := 30) gX gB dM_weight_14 (by decide) ?_
  exact hret _ (r_11) dM_weight_30 ⟨rfl, by first | (have e : r_11 = wtM tb k c := (by unfold wtM; rw [if_pos (by omega), hw11]; congr 1; omega); exact ⟨e, by omega⟩) | (have e : (1000 + c : Int) = wtM tb k c := (by unfold wtM; rw [if_neg (by omega), if_pos (by omega)]); exact ⟨e, by omega⟩) | (have e : (1 : Int) = wtM tb k c := (by unfold wtM; rw [if_neg (by omega), if_neg (by omega)]); exact ⟨e, by omega⟩)⟩ hP hD hS
set_option maxRecDepth 100000 in
set_option maxHeartbeats 1000000 in
theorem c_M_isLead (l : Launch) (dC : Nat → ClassId) (dI : Nat → Nat → Nat) (cI : ClassId) (cZ : ClassId) (cG : ClassId) (cR : ClassId) (ad : Nat → Nat) (th : Int) (tb : Int → Int) (fi : Int → Int) (se : Int → Int) (lf : Int → Int) (ct : Int → Int) (ln : Int) (tx : Int → Int) (kl : Int → Int) (kp : Int → Int) (fl : Int) (fo : Int → Int) (ol : Int) (ot : Int → Int) (pl : Int → Int) (ky : Int) (nu : Int → Int) (yk : Int) (yn : Int → Int) (lc : Int → Int) (fw : Int → Int) (sd : Int → Int) (lw : Int → Int) (od : Int → Int) (sz : Nat) (c : Int) (hp : 0 ≤ c ∧ c < 75) : Met l yM_isLead wsM_isLead ({ frames := 0, cells := 0, slots := 0, locals := 0 }) (va_Pc [.ref (ad 0), .int (iv c)] (jPre (dC, dI) (jT cI cZ cG cR) (pM cI cZ cG cR ad th tb fi se lf ct ln tx kl kp fl fo ol ot pl ky nu yk yn lc fw sd lw od) sz)) (va_Qi (fun (r0 : Int32) (u : Int) => r0 = iv u ∧ ((u = 0 ∨ u = 1) ∧ (u = 1 ↔ (40 ≤ c ∧ c < 43)))) (fun u => jEnd (dC, dI) (jT cI cZ cG cR) (va_A (pM cI cZ cG cR ad th tb fi se lf ct ln tx kl kp fl fo ol ot pl ky nu yk yn lc fw sd lw od) sz) (pM cI cZ cG cR ad th tb fi se lf ct ln tx kl kp fl fo ol ot pl ky nu yk yn lc fw sd lw od)) (va_A (pM cI cZ cG cR ad th tb fi se lf ct ln tx kl kp fl fo ol ot pl ky nu yk yn lc fw sd lw od) sz)) 0 0 (va_A (pM cI cZ cG cR ad th tb fi se lf ct ln tx kl kp fl fo ol ot pl ky nu yk yn lc fw sd lw od) sz) := by
  refine jv_mz (cc := cM_isLead) (maxL := 2) (by decide) rfl (Nat.le_of_ble_eq_true rfl) ?_
  intro p0 e0 s0 m0 a0 b0 t0 c0 R0 Q0 A0 ls gX gB hts hown hml hRf hRl hA hK hret hl hP hD hS
  have hown : s0.vm.findClass "TextPipelineModel" = some m0.cls := hown
  have hw0 : ∀ w ∈ WS0, w.before a0 s0 = true := fun w h => hts w (List.mem_cons_of_mem _ h)
  have hl : lv_has ls 2 [(0, .ref (ad 0)), (1, .int (iv c))] := hl
  have hRf : 0 ≤ R0.frames := hRf
  have hRl : 0 ≤ R0.locals := hRl
  refine lv_iload_n (pc := 0) gX gB dM_isLead_0 rfl (lv_at hl 1 rfl) ?_
  refine lv_bipush (pc := 1) (v := iv 40) gX gB dM_isLead_1 (by decide) ?_
  refine jv_icmp_lt (pc := 3) (tgt := 16) gX gB dM_isLead_3 (by decide) (by omega) (by decide) (fun h1 => ?_) (fun h1 => ?_)
  · skip
    refine lv_iconst (pc := 16) (v := iv 0) gX gB dM_isLead_16 rfl ?_
    exact hret _ (0) dM_isLead_17 (Or.inl rfl) ⟨rfl, by omega⟩ hP hD hS
  refine lv_iload_n (pc := 6) gX gB dM_isLead_6 rfl (lv_at hl 1 rfl) ?_
  refine lv_bipush (pc := 7) (v := iv 43) gX gB dM_isLead_7 (by decide) ?_
  refine jv_icmp_ge (pc := 9) (tgt := 16) gX gB dM_isLead_9 (by decide) (by omega) (by decide) (fun h2 => ?_) (fun h2 => ?_)
  · skip
    refine lv_iconst (pc := 16) (v := iv 0) gX gB dM_isLead_16 rfl ?_
    exact hret _ (0) dM_isLead_17 (Or.inl rfl) ⟨rfl, by omega⟩ hP hD hS
  refine lv_iconst (pc := 12) (v := iv 1) gX gB dM_isLead_12 rfl ?_
  refine lv_goto (pc := 13) (tgt := 17) gX gB dM_isLead_13 (by decide) ?_
  exact hret _ (1) dM_isLead_17 (Or.inr rfl) ⟨rfl, by omega⟩ hP hD hS
set_option maxRecDepth 100000 in
set_option maxHeartbeats 1000000 in
theorem c_M_isVowel (l : Launch) (dC : Nat → ClassId) (dI : Nat → Nat → Nat) (cI : ClassId) (cZ : ClassId) (cG : ClassId) (cR : ClassId) (ad : Nat → Nat) (th : Int) (tb : Int → Int) (fi : Int → Int) (se : Int → Int) (lf : Int → Int) (ct : Int → Int) (ln : Int) (tx : Int → Int) (kl : Int → Int) (kp : Int → Int) (fl : Int) (fo : Int → Int) (ol : Int) (ot : Int → Int) (pl : Int → Int) (ky : Int) (nu : Int → Int) (yk : Int) (yn : Int → Int) (lc : Int → Int) (fw : Int → Int) (sd : Int → Int) (lw : Int → Int) (od : Int → Int) (sz : Nat) (c : Int) (hp : 0 ≤ c ∧ c < 75) : Met l yM_isVowel wsM_isVowel ({ frames := 0, cells := 0, slots := 0, locals := 0 }) (va_Pc [.ref (ad 0), .int (iv c)] (jPre (dC, dI) (jT cI cZ cG cR) (pM cI cZ cG cR ad th tb fi se lf ct ln tx kl kp fl fo ol ot pl ky nu yk yn lc fw sd lw od) sz)) (va_Qi (fun (r0 : Int32) (u : Int) => r0 = iv u ∧ ((u = 0 ∨ u = 1) ∧ (u = 1 ↔ (43 ≤ c ∧ c < 46)))) (fun u => jEnd (dC, dI) (jT cI cZ cG cR) (va_A (pM cI cZ cG cR ad th tb fi se lf ct ln tx kl kp fl fo ol ot pl ky nu yk yn lc fw sd lw od) sz) (pM cI cZ cG cR ad th tb fi se lf ct ln tx kl kp fl fo ol ot pl ky nu yk yn lc fw sd lw od)) (va_A (pM cI cZ cG cR ad th tb fi se lf ct ln tx kl kp fl fo ol ot pl ky nu yk yn lc fw sd lw od) sz)) 0 0 (va_A (pM cI cZ cG cR ad th tb fi se lf ct ln tx kl kp fl fo ol ot pl ky nu yk yn lc fw sd lw od) sz) := by
  refine jv_mz (cc := cM_isVowel) (maxL := 2) (by decide) rfl (Nat.le_of_ble_eq_true rfl) ?_
  intro p0 e0 s0 m0 a0 b0 t0 c0 R0 Q0 A0 ls gX gB hts hown hml hRf hRl hA hK hret hl hP hD hS
  have hown : s0.vm.findClass "TextPipelineModel" = some m0.cls := hown
  have hw0 : ∀ w ∈ WS0, w.before a0 s0 = true := fun w h => hts w (List.mem_cons_of_mem _ h)
  have hl : lv_has ls 2 [(0, .ref (ad 0)), (1, .int (iv c))] := hl
  have hRf : 0 ≤ R0.frames := hRf
  have hRl : 0 ≤ R0.locals := hRl
  refine lv_iload_n (pc := 0) gX gB dM_isVowel_0 rfl (lv_at hl 1 rfl) ?_
  refine lv_bipush (pc := 1) (v := iv 43) gX gB dM_isVowel_1 (by decide) ?_
  refine jv_icmp_lt (pc := 3) (tgt := 16) gX gB dM_isVowel_3 (by decide) (by omega) (by decide) (fun h1 => ?_) (fun h1 => ?_)
  · skip
    refine lv_iconst (pc := 16) (v := iv 0) gX gB dM_isVowel_16 rfl ?_
    exact hret _ (0) dM_isVowel_17 (Or.inl rfl) ⟨rfl, by omega⟩ hP hD hS
  refine lv_iload_n (pc := 6) gX gB dM_isVowel_6 rfl (lv_at hl 1 rfl) ?_
  refine lv_bipush (pc := 7) (v := iv 46) gX gB dM_isVowel_7 (by decide) ?_
  refine jv_icmp_ge (pc := 9) (tgt := 16) gX gB dM_isVowel_9 (by decide) (by omega) (by decide) (fun h2 => ?_) (fun h2 => ?_)
  · skip
    refine lv_iconst (pc := 16) (v := iv 0) gX gB dM_isVowel_16 rfl ?_
    exact hret _ (0) dM_isVowel_17 (Or.inl rfl) ⟨rfl, by omega⟩ hP hD hS
  refine lv_iconst (pc := 12) (v := iv 1) gX gB dM_isVowel_12 rfl ?_
  refine lv_goto (pc := 13) (tgt := 17) gX gB dM_isVowel_13 (by decide) ?_
  exact hret _ (1) dM_isVowel_17 (Or.inr rfl) ⟨rfl, by omega⟩ hP hD hS
set_option maxRecDepth 100000 in
set_option maxHeartbeats 1000000 in
theorem c_M_isTail (l : Launch) (dC : Nat → ClassId) (dI : Nat → Nat → Nat) (cI : ClassId) (cZ : ClassId) (cG : ClassId) (cR : ClassId) (ad : Nat → Nat) (th : Int) (tb : Int → Int) (fi : Int → Int) (se : Int → Int) (lf : Int → Int) (ct : Int → Int) (ln : Int) (tx : Int → Int) (kl : Int → Int) (kp : Int → Int) (fl : Int) (fo : Int → Int) (ol : Int) (ot : Int → Int) (pl : Int → Int) (ky : Int) (nu : Int → Int) (yk : Int) (yn : Int → Int) (lc : Int → Int) (fw : Int → Int) (sd : Int → Int) (lw : Int → Int) (od : Int → Int) (sz : Nat) (c : Int) (hp : 0 ≤ c ∧ c < 75) : Met l yM_isTail wsM_isTail ({ frames := 0, cells := 0, slots := 0, locals := 0 }) (va_Pc [.ref (ad 0), .int (iv c)] (jPre (dC, dI) (jT cI cZ cG cR) (pM cI cZ cG cR ad th tb fi se lf ct ln tx kl kp fl fo ol ot pl ky nu yk yn lc fw sd lw od) sz)) (va_Qi (fun (r0 : Int32) (u : Int) => r0 = iv u ∧ ((u = 0 ∨ u = 1) ∧ (u = 1 ↔ (46 ≤ c ∧ c < 48)))) (fun u => jEnd (dC, dI) (jT cI cZ cG cR) (va_A (pM cI cZ cG cR ad th tb fi se lf ct ln tx kl kp fl fo ol ot pl ky nu yk yn lc fw sd lw od) sz) (pM cI cZ cG cR ad th tb fi se lf ct ln tx kl kp fl fo ol ot pl ky nu yk yn lc fw sd lw od)) (va_A (pM cI cZ cG cR ad th tb fi se lf ct ln tx kl kp fl fo ol ot pl ky nu yk yn lc fw sd lw od) sz)) 0 0 (va_A (pM cI cZ cG cR ad th tb fi se lf ct ln tx kl kp fl fo ol ot pl ky nu yk yn lc fw sd lw od) sz) := by
  refine jv_mz (cc := cM_isTail) (maxL := 2) (by decide) rfl (Nat.le_of_ble_eq_true rfl) ?_
  intro p0 e0 s0 m0 a0 b0 t0 c0 R0 Q0 A0 ls gX gB hts hown hml hRf hRl hA hK hret hl hP hD hS
  have hown : s0.vm.findClass "TextPipelineModel" = some m0.cls := hown
  have hw0 : ∀ w ∈ WS0, w.before a0 s0 = true := fun w h => hts w (List.mem_cons_of_mem _ h)
  have hl : lv_has ls 2 [(0, .ref (ad 0)), (1, .int (iv c))] := hl
  have hRf : 0 ≤ R0.frames := hRf
  have hRl : 0 ≤ R0.locals := hRl
  refine lv_iload_n (pc := 0) gX gB dM_isTail_0 rfl (lv_at hl 1 rfl) ?_
  refine lv_bipush (pc := 1) (v := iv 46) gX gB dM_isTail_1 (by decide) ?_
  refine jv_icmp_eq (pc := 3) (tgt := 12) gX gB dM_isTail_3 (by decide) (by omega) (by decide) (fun h1 => ?_) (fun h1 => ?_)
  · skip
    refine lv_iconst (pc := 12) (v := iv 1) gX gB dM_isTail_12 rfl ?_
    refine lv_goto (pc := 13) (tgt := 17) gX gB dM_isTail_13 (by decide) ?_
    exact hret _ (1) dM_isTail_17 (Or.inr rfl) ⟨rfl, by omega⟩ hP hD hS
  refine lv_iload_n (pc := 6) gX gB dM_isTail_6 rfl (lv_at hl 1 rfl) ?_
  refine lv_bipush (pc := 7) (v := iv 47) gX gB dM_isTail_7 (by decide) ?_
  refine jv_icmp_ne (pc := 9) (tgt := 16) gX gB dM_isTail_9 (by decide) (by omega) (by decide) (fun h2 => ?_) (fun h2 => ?_)
  · skip
    refine lv_iconst (pc := 16) (v := iv 0) gX gB dM_isTail_16 rfl ?_
    exact hret _ (0) dM_isTail_17 (Or.inl rfl) ⟨rfl, by omega⟩ hP hD hS
  refine lv_iconst (pc := 12) (v := iv 1) gX gB dM_isTail_12 rfl ?_
  refine lv_goto (pc := 13) (tgt := 17) gX gB dM_isTail_13 (by decide) ?_
  exact hret _ (1) dM_isTail_17 (Or.inr rfl) ⟨rfl, by omega⟩ hP hD hS
set_option maxRecDepth 100000 in
set_option maxHeartbeats 1000000 in
theorem c_M_isOpen (l : Launch) (dC : Nat → ClassId) (dI : Nat → Nat → Nat) (cI : ClassId) (cZ : ClassId) (cG : ClassId) (cR : ClassId) (ad : Nat → Nat) (th : Int) (tb : Int → Int) (fi : Int → Int) (se : Int → Int) (lf : Int → Int) (ct : Int → Int) (ln : Int) (tx : Int → Int) (kl : Int → Int) (kp : Int → Int) (fl : Int) (fo : Int → Int) (ol : Int) (ot : Int → Int) (pl : Int → Int) (ky : Int) (nu : Int → Int) (yk : Int) (yn : Int → Int) (lc : Int → Int) (fw : Int → Int) (sd : Int → Int) (lw : Int → Int) (od : Int → Int) (sz : Nat) (c : Int) (hp : 0 ≤ c ∧ c < 75) : Met l yM_isOpen wsM_isOpen ({ frames := 0, cells := 0, slots := 0, locals := 0 }) (va_Pc [.ref (ad 0), .int (iv c)] (jPre (dC, dI) (jT cI cZ cG cR) (pM cI cZ cG cR ad th tb fi se lf ct ln tx kl kp fl fo ol ot pl ky nu yk yn lc fw sd lw od) sz)) (va_Qi (fun (r0 : Int32) (u : Int) => r0 = iv u ∧ ((u = 0 ∨ u = 1) ∧ (u = 1 ↔ (47 < c ∧ c % 3 = 0)))) (fun u => jEnd (dC, dI) (jT cI cZ cG cR) (va_A (pM cI cZ cG cR ad th tb fi se lf ct ln tx kl kp fl fo ol ot pl ky nu yk yn lc fw sd lw od) sz) (pM cI cZ cG cR ad th tb fi se lf ct ln tx kl kp fl fo ol ot pl ky nu yk yn lc fw sd lw od)) (va_A (pM cI cZ cG cR ad th tb fi se lf ct ln tx kl kp fl fo ol ot pl ky nu yk yn lc fw sd lw od) sz)) 0 0 (va_A (pM cI cZ cG cR ad th tb fi se lf ct ln tx kl kp fl fo ol ot pl ky nu yk yn lc fw sd lw od) sz) := by
  refine jv_mz (cc := cM_isOpen) (maxL := 2) (by decide) rfl (Nat.le_of_ble_eq_true rfl) ?_
  intro p0 e0 s0 m0 a0 b0 t0 c0 R0 Q0 A0 ls gX gB hts hown hml hRf hRl hA hK hret hl hP hD hS
  have hown : s0.vm.findClass "TextPipelineModel" = some m0.cls := hown
  have hw0 : ∀ w ∈ WS0, w.before a0 s0 = true := fun w h => hts w (List.mem_cons_of_mem _ h)
  have hl : lv_has ls 2 [(0, .ref (ad 0)), (1, .int (iv c))] := hl
  have hRf : 0 ≤ R0.frames := hRf
  have hRl : 0 ≤ R0.locals := hRl
  refine lv_iload_n (pc := 0) gX gB dM_isOpen_0 rfl (lv_at hl 1 rfl) ?_
  refine lv_bipush (pc := 1) (v := iv 47) gX gB dM_isOpen_1 (by decide) ?_
  refine jv_icmp_le (pc := 3) (tgt := 16) gX gB dM_isOpen_3 (by decide) (by omega) (by decide) (fun h1 => ?_) (fun h1 => ?_)
  · skip
    refine lv_iconst (pc := 16) (v := iv 0) gX gB dM_isOpen_16 rfl ?_
    exact hret _ (0) dM_isOpen_17 (Or.inl rfl) ⟨rfl, by omega⟩ hP hD hS
  refine lv_iload_n (pc := 6) gX gB dM_isOpen_6 rfl (lv_at hl 1 rfl) ?_
  refine lv_iconst (pc := 7) (v := iv 3) gX gB dM_isOpen_7 rfl ?_
  refine jv_irem (pc := 8) (x := c) (y := 3) gX gB dM_isOpen_8 (by omega) (by omega) ?_
  refine jv_if_ne (pc := 9) (tgt := 16) gX gB dM_isOpen_9 (by decide) (by omega) (fun h2 => ?_) (fun h2 => ?_)
  · skip
    refine lv_iconst (pc := 16) (v := iv 0) gX gB dM_isOpen_16 rfl ?_
    exact hret _ (0) dM_isOpen_17 (Or.inl rfl) ⟨rfl, by omega⟩ hP hD hS
  refine lv_iconst (pc := 12) (v := iv 1) gX gB dM_isOpen_12 rfl ?_
  refine lv_goto (pc := 13) (tgt := 17) gX gB dM_isOpen_13 (by decide) ?_
  exact hret _ (1) dM_isOpen_17 (Or.inr rfl) ⟨rfl, by omega⟩ hP hD hS
set_option maxRecDepth 100000 in
set_option maxHeartbeats 1000000 in
theorem c_M_isClosed (l : Launch) (dC : Nat → ClassId) (dI : Nat → Nat → Nat) (cI : ClassId) (cZ : ClassId) (cG : ClassId) (cR : ClassId) (ad : Nat → Nat) (th : Int) (tb : Int → Int) (fi : Int → Int) (se : Int → Int) (lf : Int → Int) (ct : Int → Int) (ln : Int) (tx : Int → Int) (kl : Int → Int) (kp : Int → Int) (fl : Int) (fo : Int → Int) (ol : Int) (ot : Int → Int) (pl : Int → Int) (ky : Int) (nu : Int → Int) (yk : Int) (yn : Int → Int) (lc : Int → Int) (fw : Int → Int) (sd : Int → Int) (lw : Int → Int) (od : Int → Int) (sz : Nat) (c : Int) (hp : 0 ≤ c ∧ c < 75) : Met l yM_isClosed wsM_isClosed ({ frames := 0, cells := 0, slots := 0, locals := 0 }) (va_Pc [.ref (ad 0), .int (iv c)] (jPre (dC, dI) (jT cI cZ cG cR) (pM cI cZ cG cR ad th tb fi se lf ct ln tx kl kp fl fo ol ot pl ky nu yk yn lc fw sd lw od) sz)) (va_Qi (fun (r0 : Int32) (u : Int) => r0 = iv u ∧ ((u = 0 ∨ u = 1) ∧ (u = 1 ↔ (47 < c ∧ c % 3 ≠ 0)))) (fun u => jEnd (dC, dI) (jT cI cZ cG cR) (va_A (pM cI cZ cG cR ad th tb fi se lf ct ln tx kl kp fl fo ol ot pl ky nu yk yn lc fw sd lw od) sz) (pM cI cZ cG cR ad th tb fi se lf ct ln tx kl kp fl fo ol ot pl ky nu yk yn lc fw sd lw od)) (va_A (pM cI cZ cG cR ad th tb fi se lf ct ln tx kl kp fl fo ol ot pl ky nu yk yn lc fw sd lw od) sz)) 0 0 (va_A (pM cI cZ cG cR ad th tb fi se lf ct ln tx kl kp fl fo ol ot pl ky nu yk yn lc fw sd lw od) sz) := by
  refine jv_mz (cc := cM_isClosed) (maxL := 2) (by decide) rfl (Nat.le_of_ble_eq_true rfl) ?_
  intro p0 e0 s0 m0 a0 b0 t0 c0 R0 Q0 A0 ls gX gB hts hown hml hRf hRl hA hK hret hl hP hD hS
  have hown : s0.vm.findClass "TextPipelineModel" = some m0.cls := hown
  have hw0 : ∀ w ∈ WS0, w.before a0 s0 = true := fun w h => hts w (List.mem_cons_of_mem _ h)
  have hl : lv_has ls 2 [(0, .ref (ad 0)), (1, .int (iv c))] := hl
  have hRf : 0 ≤ R0.frames := hRf
  have hRl : 0 ≤ R0.locals := hRl
  refine lv_iload_n (pc := 0) gX gB dM_isClosed_0 rfl (lv_at hl 1 rfl) ?_
  refine lv_bipush (pc := 1) (v := iv 47) gX gB dM_isClosed_1 (by decide) ?_
  refine jv_icmp_le (pc := 3) (tgt := 16) gX gB dM_isClosed_3 (by decide) (by omega) (by decide) (fun h1 => ?_) (fun h1 => ?_)
  · skip
    refine lv_iconst (pc := 16) (v := iv 0) gX gB dM_isClosed_16 rfl ?_
    exact hret _ (0) dM_isClosed_17 (Or.inl rfl) ⟨rfl, by omega⟩ hP hD hS
  refine lv_iload_n (pc := 6) gX gB dM_isClosed_6 rfl (lv_at hl 1 rfl) ?_
  refine lv_iconst (pc := 7) (v := iv 3) gX gB dM_isClosed_7 rfl ?_
  refine jv_irem (pc := 8) (x := c) (y := 3) gX gB dM_isClosed_8 (by omega) (by omega) ?_
  refine jv_if_eq (pc := 9) (tgt := 16) gX gB dM_isClosed_9 (by decide) (by omega) (fun h2 => ?_) (fun h2 => ?_)
  · skip
    refine lv_iconst (pc := 16) (v := iv 0) gX gB dM_isClosed_16 rfl ?_
    exact hret _ (0) dM_isClosed_17 (Or.inl rfl) ⟨rfl, by omega⟩ hP hD hS
  refine lv_iconst (pc := 12) (v := iv 1) gX gB dM_isClosed_12 rfl ?_
  refine lv_goto (pc := 13) (tgt := 17) gX gB dM_isClosed_13 (by decide) ?_
  exact hret _ (1) dM_isClosed_17 (Or.inr rfl) ⟨rfl, by omega⟩ hP hD hS
set_option maxRecDepth 100000 in
set_option maxHeartbeats 1000000 in
theorem c_M_neutral (l : Launch) (dC : Nat → ClassId) (dI : Nat → Nat → Nat) (cI : ClassId) (cZ : ClassId) (cG : ClassId) (cR : ClassId) (ad : Nat → Nat) (th : Int) (tb : Int → Int) (fi : Int → Int) (se : Int → Int) (lf : Int → Int) (ct : Int → Int) (ln : Int) (tx : Int → Int) (kl : Int → Int) (kp : Int → Int) (fl : Int) (fo : Int → Int) (ol : Int) (ot : Int → Int) (pl : Int → Int) (ky : Int) (nu : Int → Int) (yk : Int) (yn : Int → Int) (lc : Int → Int) (fw : Int → Int) (sd : Int → Int) (lw : Int → Int) (od : Int → Int) (sz : Nat) (c : Int) (hp : 0 ≤ c ∧ c < 75) : Met l yM_neutral wsM_neutral ({ frames := 0, cells := 0, slots := 0, locals := 0 }) (va_Pc [.ref (ad 0), .int (iv c)] (jPre (dC, dI) (jT cI cZ cG cR) (pM cI cZ cG cR ad th tb fi se lf ct ln tx kl kp fl fo ol ot pl ky nu yk yn lc fw sd lw od) sz)) (va_Qi (fun (r0 : Int32) (u : Int) => r0 = iv u ∧ ((u = 0 ∨ u = 1) ∧ (u = 1 ↔ (8 < c)))) (fun u => jEnd (dC, dI) (jT cI cZ cG cR) (va_A (pM cI cZ cG cR ad th tb fi se lf ct ln tx kl kp fl fo ol ot pl ky nu yk yn lc fw sd lw od) sz) (pM cI cZ cG cR ad th tb fi se lf ct ln tx kl kp fl fo ol ot pl ky nu yk yn lc fw sd lw od)) (va_A (pM cI cZ cG cR ad th tb fi se lf ct ln tx kl kp fl fo ol ot pl ky nu yk yn lc fw sd lw od) sz)) 0 0 (va_A (pM cI cZ cG cR ad th tb fi se lf ct ln tx kl kp fl fo ol ot pl ky nu yk yn lc fw sd lw od) sz) := by
  refine jv_mz (cc := cM_neutral) (maxL := 2) (by decide) rfl (Nat.le_of_ble_eq_true rfl) ?_
  intro p0 e0 s0 m0 a0 b0 t0 c0 R0 Q0 A0 ls gX gB hts hown hml hRf hRl hA hK hret hl hP hD hS
  have hown : s0.vm.findClass "TextPipelineModel" = some m0.cls := hown
  have hw0 : ∀ w ∈ WS0, w.before a0 s0 = true := fun w h => hts w (List.mem_cons_of_mem _ h)
  have hl : lv_has ls 2 [(0, .ref (ad 0)), (1, .int (iv c))] := hl
  have hRf : 0 ≤ R0.frames := hRf
  have hRl : 0 ≤ R0.locals := hRl
  refine lv_iload_n (pc := 0) gX gB dM_neutral_0 rfl (lv_at hl 1 rfl) ?_
  refine lv_bipush (pc := 1) (v := iv 8) gX gB dM_neutral_1 (by decide) ?_
  refine jv_icmp_le (pc := 3) (tgt := 10) gX gB dM_neutral_3 (by decide) (by omega) (by decide) (fun h1 => ?_) (fun h1 => ?_)
  · skip
    refine lv_iconst (pc := 10) (v := iv 0) gX gB dM_neutral_10 rfl ?_
    exact hret _ (0) dM_neutral_11 (Or.inl rfl) ⟨rfl, by omega⟩ hP hD hS
  refine lv_iconst (pc := 6) (v := iv 1) gX gB dM_neutral_6 rfl ?_
  refine lv_goto (pc := 7) (tgt := 11) gX gB dM_neutral_7 (by decide) ?_
  exact hret _ (1) dM_neutral_11 (Or.inr rfl) ⟨rfl, by omega⟩ hP hD hS
set_option maxRecDepth 100000 in
set_option maxHeartbeats 1000000 in
theorem c_M_noPlace (l : Launch) (dC : Nat → ClassId) (dI : Nat → Nat → Nat) (cI : ClassId) (cZ : ClassId) (cG : ClassId) (cR : ClassId) (ad : Nat → Nat) (th : Int) (tb : Int → Int) (fi : Int → Int) (se : Int → Int) (lf : Int → Int) (ct : Int → Int) (ln : Int) (tx : Int → Int) (kl : Int → Int) (kp : Int → Int) (fl : Int) (fo : Int → Int) (ol : Int) (ot : Int → Int) (pl : Int → Int) (ky : Int) (nu : Int → Int) (yk : Int) (yn : Int → Int) (lc : Int → Int) (fw : Int → Int) (sd : Int → Int) (lw : Int → Int) (od : Int → Int) (sz : Nat) (i : Int) (n : Int) (hp : -2147483648 ≤ i ∧ i < 2147483648) (hn : 0 ≤ n ∧ n < 1000) : Met l yM_noPlace wsM_noPlace ({ frames := 0, cells := 0, slots := 0, locals := 0 }) (va_Pc [.ref (ad 0), .int (iv i), .int (iv n)] (jPre (dC, dI) (jT cI cZ cG cR) (pM cI cZ cG cR ad th tb fi se lf ct ln tx kl kp fl fo ol ot pl ky nu yk yn lc fw sd lw od) sz)) (va_Qi (fun (r0 : Int32) (u : Int) => r0 = iv u ∧ ((u = 0 ∨ u = 1) ∧ (u = 1 ↔ (i < 0 ∨ n ≤ i)))) (fun u => jEnd (dC, dI) (jT cI cZ cG cR) (va_A (pM cI cZ cG cR ad th tb fi se lf ct ln tx kl kp fl fo ol ot pl ky nu yk yn lc fw sd lw od) sz) (pM cI cZ cG cR ad th tb fi se lf ct ln tx kl kp fl fo ol ot pl ky nu yk yn lc fw sd lw od)) (va_A (pM cI cZ cG cR ad th tb fi se lf ct ln tx kl kp fl fo ol ot pl ky nu yk yn lc fw sd lw od) sz)) 0 0 (va_A (pM cI cZ cG cR ad th tb fi se lf ct ln tx kl kp fl fo ol ot pl ky nu yk yn lc fw sd lw od) sz) := by
  refine jv_mz (cc := cM_noPlace) (maxL := 3) (by decide) rfl (Nat.le_of_ble_eq_true rfl) ?_
  intro p0 e0 s0 m0 a0 b0 t0 c0 R0 Q0 A0 ls gX gB hts hown hml hRf hRl hA hK hret hl hP hD hS
  have hown : s0.vm.findClass "TextPipelineModel" = some m0.cls := hown
  have hw0 : ∀ w ∈ WS0, w.before a0 s0 = true := fun w h => hts w (List.mem_cons_of_mem _ h)
  have hl : lv_has ls 3 [(0, .ref (ad 0)), (1, .int (iv i)), (2, .int (iv n))] := hl
  have hRf : 0 ≤ R0.frames := hRf
  have hRl : 0 ≤ R0.locals := hRl
  refine lv_iload_n (pc := 0) gX gB dM_noPlace_0 rfl (lv_at hl 1 rfl) ?_
  refine jv_if_lt (pc := 1) (tgt := 9) gX gB dM_noPlace_1 (by decide) (by omega) (fun h1 => ?_) (fun h1 => ?_)
  · skip
    refine lv_iconst (pc := 9) (v := iv 1) gX gB dM_noPlace_9 rfl ?_
    refine lv_goto (pc := 10) (tgt := 14) gX gB dM_noPlace_10 (by decide) ?_
    exact hret _ (1) dM_noPlace_14 (Or.inr rfl) ⟨rfl, by omega⟩ hP hD hS
  refine lv_iload_n (pc := 4) gX gB dM_noPlace_4 rfl (lv_at hl 1 rfl) ?_
  refine lv_iload_n (pc := 5) gX gB dM_noPlace_5 rfl (lv_at hl 2 rfl) ?_
  refine jv_icmp_lt (pc := 6) (tgt := 13) gX gB dM_noPlace_6 (by decide) (by omega) (by omega) (fun h2 => ?_) (fun h2 => ?_)
  · skip
    refine lv_iconst (pc := 13) (v := iv 0) gX gB dM_noPlace_13 rfl ?_
    exact hret _ (0) dM_noPlace_14 (Or.inl rfl) ⟨rfl, by omega⟩ hP hD hS
  refine lv_iconst (pc := 9) (v := iv 1) gX gB dM_noPlace_9 rfl ?_
  refine lv_goto (pc := 10) (tgt := 14) gX gB dM_noPlace_10 (by decide) ?_
  exact hret _ (1) dM_noPlace_14 (Or.inr rfl) ⟨rfl, by omega⟩ hP hD hS
set_option maxRecDepth 100000 in
set_option maxHeartbeats 1000000 in
theorem c_M_noSlot (l : Launch) (dC : Nat → ClassId) (dI : Nat → Nat → Nat) (cI : ClassId) (cZ : ClassId) (cG : ClassId) (cR : ClassId) (ad : Nat → Nat) (th : Int) (tb : Int → Int) (fi : Int → Int) (se : Int → Int) (lf : Int → Int) (ct : Int → Int) (ln : Int) (tx : Int → Int) (kl : Int → Int) (kp : Int → Int) (fl : Int) (fo : Int → Int) (ol : Int) (ot : Int → Int) (pl : Int → Int) (ky : Int) (nu : Int → Int) (yk : Int) (yn : Int → Int) (lc : Int → Int) (fw : Int → Int) (sd : Int → Int) (lw : Int → Int) (od : Int → Int) (sz : Nat) (k : Int) (hp : -2147483648 ≤ k ∧ k < 2147483648) : Met l yM_noSlot wsM_noSlot ({ frames := 0, cells := 0, slots := 0, locals := 0 }) (va_Pc [.ref (ad 0), .int (iv k)] (jPre (dC, dI) (jT cI cZ cG cR) (pM cI cZ cG cR ad th tb fi se lf ct ln tx kl kp fl fo ol ot pl ky nu yk yn lc fw sd lw od) sz)) (va_Qi (fun (r0 : Int32) (u : Int) => r0 = iv u ∧ ((u = 0 ∨ u = 1) ∧ (u = 1 ↔ (k < 0 ∨ 3 < k)))) (fun u => jEnd (dC, dI) (jT cI cZ cG cR) (va_A (pM cI cZ cG cR ad th tb fi se lf ct ln tx kl kp fl fo ol ot pl ky nu yk yn lc fw sd lw od) sz) (pM cI cZ cG cR ad th tb fi se lf ct ln tx kl kp fl fo ol ot pl ky nu yk yn lc fw sd lw od)) (va_A (pM cI cZ cG cR ad th tb fi se lf ct ln tx kl kp fl fo ol ot pl ky nu yk yn lc fw sd lw od) sz)) 0 0 (va_A (pM cI cZ cG cR ad th tb fi se lf ct ln tx kl kp fl fo ol ot pl ky nu yk yn lc fw sd lw od) sz) := by
  refine jv_mz (cc := cM_noSlot) (maxL := 2) (by decide) rfl (Nat.le_of_ble_eq_true rfl) ?_
  intro p0 e0 s0 m0 a0 b0 t0 c0 R0 Q0 A0 ls gX gB hts hown hml hRf hRl hA hK hret hl hP hD hS
  have hown : s0.vm.findClass "TextPipelineModel" = some m0.cls := hown
  have hw0 : ∀ w ∈ WS0, w.before a0 s0 = true := fun w h => hts w (List.mem_cons_of_mem _ h)
  have hl : lv_has ls 2 [(0, .ref (ad 0)), (1, .int (iv k))] := hl
  have hRf : 0 ≤ R0.frames := hRf
  have hRl : 0 ≤ R0.locals := hRl
  refine lv_iload_n (pc := 0) gX gB dM_noSlot_0 rfl (lv_at hl 1 rfl) ?_
  refine jv_if_lt (pc := 1) (tgt := 9) gX gB dM_noSlot_1 (by decide) (by omega) (fun h1 => ?_) (fun h1 => ?_)
  · skip
    refine lv_iconst (pc := 9) (v := iv 1) gX gB dM_noSlot_9 rfl ?_
    refine lv_goto (pc := 10) (tgt := 14) gX gB dM_noSlot_10 (by decide) ?_
    exact hret _ (1) dM_noSlot_14 (Or.inr rfl) ⟨rfl, by omega⟩ hP hD hS
  refine lv_iload_n (pc := 4) gX gB dM_noSlot_4 rfl (lv_at hl 1 rfl) ?_
  refine lv_iconst (pc := 5) (v := iv 3) gX gB dM_noSlot_5 rfl ?_
  refine jv_icmp_le (pc := 6) (tgt := 13) gX gB dM_noSlot_6 (by decide) (by omega) (by decide) (fun h2 => ?_) (fun h2 => ?_)
  · skip
    refine lv_iconst (pc := 13) (v := iv 0) gX gB dM_noSlot_13 rfl ?_
    exact hret _ (0) dM_noSlot_14 (Or.inl rfl) ⟨rfl, by omega⟩ hP hD hS
  refine lv_iconst (pc := 9) (v := iv 1) gX gB dM_noSlot_9 rfl ?_
  refine lv_goto (pc := 10) (tgt := 14) gX gB dM_noSlot_10 (by decide) ?_
  exact hret _ (1) dM_noSlot_14 (Or.inr rfl) ⟨rfl, by omega⟩ hP hD hS
set_option maxRecDepth 100000 in
set_option maxHeartbeats 1000000 in
theorem c_M_set (l : Launch) (dC : Nat → ClassId) (dI : Nat → Nat → Nat) (cI : ClassId) (cZ : ClassId) (cG : ClassId) (cR : ClassId) (ad : Nat → Nat) (th : Int) (tb : Int → Int) (fi : Int → Int) (se : Int → Int) (lf : Int → Int) (ct : Int → Int) (ln : Int) (tx : Int → Int) (kl : Int → Int) (kp : Int → Int) (fl : Int) (fo : Int → Int) (ol : Int) (ot : Int → Int) (pl : Int → Int) (ky : Int) (nu : Int → Int) (yk : Int) (yn : Int → Int) (lc : Int → Int) (fw : Int → Int) (sd : Int → Int) (lw : Int → Int) (od : Int → Int) (sz : Nat) (c : Int) (w : Int) (v : Int) (hc : -2147483648 ≤ c ∧ c < 2147483648) (hw : -2147483648 ≤ w ∧ w < 2147483648) (hv : -2147483648 ≤ v ∧ v < 2147483648) : Met l yM_set wsM_set ({ frames := 0, cells := 0, slots := 0, locals := 0 }) (va_Pc [.ref (ad 0), .int (iv c), .int (iv w), .int (iv v)] (jPre (dC, dI) (jT cI cZ cG cR) (pM cI cZ cG cR ad th tb fi se lf ct ln tx kl kp fl fo ol ot pl ky nu yk yn lc fw sd lw od) sz)) (va_Qv (fun u : Int × (Int → Int) => (u.1 = 0 ∧ setOK c w v ∧ u.2 = uI tb (40 * w + c) v) ∨ (u.1 = 1 ∧ ¬ setOK c w v ∧ u.2 = tb)) (fun u => jEnd (dC, dI) (jT cI cZ cG cR) (va_A (pM cI cZ cG cR ad th tb fi se lf ct ln tx kl kp fl fo ol ot pl ky nu yk yn lc fw sd lw od) sz) (pM cI cZ cG cR ad u.1 u.2 fi se lf ct ln tx kl kp fl fo ol ot pl ky nu yk yn lc fw sd lw od)) (va_A (pM cI cZ cG cR ad th tb fi se lf ct ln tx kl kp fl fo ol ot pl ky nu yk yn lc fw sd lw od) sz)) 0 0 (va_A (pM cI cZ cG cR ad th tb fi se lf ct ln tx kl kp fl fo ol ot pl ky nu yk yn lc fw sd lw od) sz) := by
  refine jv_mv (cc := cM_set) (maxL := 5) (by decide) rfl (Nat.le_of_ble_eq_true rfl) ?_
  intro p0 e0 s0 m0 a0 b0 t0 c0 R0 Q0 A0 ls gX gB hts hown hml hRf hRl hA hK hret hl hP hD hS
  have hown : s0.vm.findClass "TextPipelineModel" = some m0.cls := hown
  have hw0 : ∀ w ∈ WS0, w.before a0 s0 = true := fun w h => hts w (List.mem_cons_of_mem _ h)
  have hl : lv_has ls 5 [(0, .ref (ad 0)), (1, .int (iv c)), (2, .int (iv w)), (3, .int (iv v))] := hl
  have hRf : 0 ≤ R0.frames := hRf
  have hRl : 0 ≤ R0.locals := hRl
  have cut43 : ∀ (most : Int) (ls : Array Slot) (H : Heap) (locs : List Loc), ((w = 0 ∧ most = 254) ∨ (w = 1 ∧ most = 9) ∨ (w = 2 ∧ most = 12) ∨ (w = 3 ∧ most = 11) ∨ ((w < 0 ∨ 3 < w) ∧ most = 999)) → lv_has ls 5 [(0, .ref (ad 0)), (1, .int (iv c)), (2, .int (iv w)), (3, .int (iv v))] → va_P (dC, dI) vwCl (pM cI cZ cG cR ad th tb fi se lf ct ln tx kl kp fl fo ol ot pl ky nu yk yn lc fw sd lw od) H → va_D A0 (pM cI cZ cG cR ad th tb fi se lf ct ln tx kl kp fl fo ol ot pl ky nu yk yn lc fw sd lw od) → va_S A0 s0.heap H locs → W p0 l e0 R0 s0 m0 a0 b0 t0 c0 H locs 0 0 Q0 (F0 m0 43 ls [.int (iv most)]) := by
    intro most ls H locs hm hl hP hD hS
    refine lv_istore (pc := 43) (lv' := [(4, .int (iv most)), (0, .ref (ad 0)), (1, .int (iv c)), (2, .int (iv w)), (3, .int (iv v))]) gX gB dM_set_43 hl (by decide) rfl (fun ls hl => ?_)
    refine lv_aload_n (pc := 45) gX gB dM_set_45 rfl (lv_at hl 1 rfl) ?_
    have cut81 : ∀ (tv : Int) (ls : Array Slot) (H : Heap) (locs : List Loc), ((tv = 0 ∧ setOK c w v) ∨ (tv = 1 ∧ ¬ setOK c w v)) → lv_has ls 5 [(0, .ref (ad 0)), (1, .int (iv c)), (2, .int (iv w)), (3, .int (iv v))] → va_P (dC, dI) vwCl (pM cI cZ cG cR ad th tb fi se lf ct ln tx kl kp fl fo ol ot pl ky nu yk yn lc fw sd lw od) H → va_D A0 (pM cI cZ cG cR ad th tb fi se lf ct ln tx kl kp fl fo ol ot pl ky nu yk yn lc fw sd lw od) → va_S A0 s0.heap H locs → W p0 l e0 R0 s0 m0 a0 b0 t0 c0 H locs 0 0 Q0 (F0 m0 81 ls [.int (iv tv), .ref (ad 0)]) := by
      intro tv ls H locs ht hl hP hD hS
      refine jv_put (pc := 81) (D := (dC, dI)) (ci := 5) (v := .int (iv tv)) (ty := .int) (C := RM) (T := TM) (N := 24) (ws' := (pM cI cZ cG cR ad tv tb fi se lf ct ln tx kl kp fl fo ol ot pl ky nu yk yn lc fw sd lw od)) gX gB hw0 inM tyM tyM_ok nmM hown hK hP hD hS 0 rfl rfl 0 (by decide) (hw0 _ q651) (fun _ h9 => h9) rfl (by decide +kernel) rfl rfl (Nat.le_of_ble_eq_true rfl) dM_set_81 rfl (fun H locs hP hD hS => ?_)
      refine lv_aload_n (pc := 84) gX gB dM_set_84 rfl (lv_at hl 0 rfl) ?_
      refine va_get (pc := 85) (D := (dC, dI)) (ci := 5) (v := .int (iv tv)) (C := RM) (T := TM) (N := 24) gX gB hw0 inM hown hK hP 0 rfl rfl 0 (by decide) (hw0 _ q651) (fun _ h9 => h9) rfl dM_set_85 ?_
      refine jv_if_ne (pc := 88) (tgt := 103) gX gB dM_set_88 (by decide) (by omega) (fun h1 => ?_) (fun h1 => ?_)
      · skip
        exact hret (tv, tb) dM_set_103 (by first | (dsimp only; first | exact Or.inl ⟨by omega, by rcases ht with h | h; exact h.2; omega, rfl⟩ | exact Or.inr ⟨by omega, by rcases ht with h | h; omega; exact h.2, rfl⟩) | (first | exact Or.inl ⟨by omega, by rcases ht with h | h; exact h.2; omega, rfl⟩ | exact Or.inr ⟨by omega, by rcases ht with h | h; omega; exact h.2, rfl⟩)) hP hD hS
      refine lv_aload_n (pc := 91) gX gB dM_set_91 rfl (lv_at hl 0 rfl) ?_
      refine va_get (pc := 92) (D := (dC, dI)) (ci := 5) (v := .ref (ad 1)) (C := RM) (T := TM) (N := 24) gX gB hw0 inM hown hK hP 0 rfl rfl 1 (by decide) (hw0 _ q652) (fun _ h9 => h9) rfl dM_set_92 ?_
      refine lv_bipush (pc := 95) (v := iv 40) gX gB dM_set_95 (by decide) ?_
      refine lv_iload_n (pc := 97) gX gB dM_set_97 rfl (lv_at hl 2 rfl) ?_
      refine jv_imul (pc := 98) (x := 40) (y := w) gX gB dM_set_98 ?_
      refine lv_iload_n (pc := 99) gX gB dM_set_99 rfl (lv_at hl 1 rfl) ?_
      refine jv_iadd (pc := 100) (x := 40 * w) (y := c) gX gB dM_set_100 ?_
      refine lv_iload_n (pc := 101) gX gB dM_set_101 rfl (lv_at hl 3 rfl) ?_
      refine jv_iast (pc := 102) (ws' := (pM cI cZ cG cR ad tv (uI tb ((40 * w) + c) v) fi se lf ct ln tx kl kp fl fo ol ot pl ky nu yk yn lc fw sd lw od)) gX gB hK hP hD hS 1 0 rfl rfl (by decide) (by unfold setOK at ht; omega) dM_set_102 rfl (fun H locs hP hD hS => ?_)
      exact hret (tv, (uI tb ((40 * w) + c) v)) dM_set_103 (by first | (dsimp only; first | exact Or.inl ⟨by omega, by rcases ht with h | h; exact h.2; omega, rfl⟩ | exact Or.inr ⟨by omega, by rcases ht with h | h; omega; exact h.2, rfl⟩) | (first | exact Or.inl ⟨by omega, by rcases ht with h | h; exact h.2; omega, rfl⟩ | exact Or.inr ⟨by omega, by rcases ht with h | h; omega; exact h.2, rfl⟩)) hP hD hS
    refine lv_iload_n (pc := 46) gX gB dM_set_46 rfl (lv_at hl 2 rfl) ?_
    refine jv_if_lt (pc := 47) (tgt := 76) gX gB dM_set_47 (by decide) (by omega) (fun h2 => ?_) (fun h2 => ?_)
    · skip
      refine lv_iconst (pc := 76) (v := iv 1) gX gB dM_set_76 rfl ?_
      refine lv_goto (pc := 77) (tgt := 81) gX gB dM_set_77 (by decide) ?_
      exact cut81 1 _ _ _ (by unfold setOK; omega) (lv_sub hl [1, 2, 3, 4] rfl) hP hD hS
    refine lv_iload_n (pc := 50) gX gB dM_set_50 rfl (lv_at hl 2 rfl) ?_
    refine lv_bipush (pc := 51) (v := iv 39) gX gB dM_set_51 (by decide) ?_
    refine jv_icmp_gt (pc := 53) (tgt := 76) gX gB dM_set_53 (by decide) (by omega) (by decide) (fun h3 => ?_) (fun h3 => ?_)
    · skip
      refine lv_iconst (pc := 76) (v := iv 1) gX gB dM_set_76 rfl ?_
      refine lv_goto (pc := 77) (tgt := 81) gX gB dM_set_77 (by decide) ?_
      exact cut81 1 _ _ _ (by unfold setOK; omega) (lv_sub hl [1, 2, 3, 4] rfl) hP hD hS
    refine lv_iload_n (pc := 56) gX gB dM_set_56 rfl (lv_at hl 3 rfl) ?_
    refine jv_if_lt (pc := 57) (tgt := 76) gX gB dM_set_57 (by decide) (by omega) (fun h4 => ?_) (fun h4 => ?_)
    · skip
      refine lv_iconst (pc := 76) (v := iv 1) gX gB dM_set_76 rfl ?_
      refine lv_goto (pc := 77) (tgt := 81) gX gB dM_set_77 (by decide) ?_
      exact cut81 1 _ _ _ (by unfold setOK; omega) (lv_sub hl [1, 2, 3, 4] rfl) hP hD hS
    refine lv_iload_n (pc := 60) gX gB dM_set_60 rfl (lv_at hl 3 rfl) ?_
    refine lv_bipush (pc := 61) (v := iv 6) gX gB dM_set_61 (by decide) ?_
    refine jv_icmp_gt (pc := 63) (tgt := 76) gX gB dM_set_63 (by decide) (by omega) (by decide) (fun h5 => ?_) (fun h5 => ?_)
    · skip
      refine lv_iconst (pc := 76) (v := iv 1) gX gB dM_set_76 rfl ?_
      refine lv_goto (pc := 77) (tgt := 81) gX gB dM_set_77 (by decide) ?_
      exact cut81 1 _ _ _ (by unfold setOK; omega) (lv_sub hl [1, 2, 3, 4] rfl) hP hD hS
    refine lv_iload_n (pc := 66) gX gB dM_set_66 rfl (lv_at hl 4 rfl) ?_
    refine jv_if_lt (pc := 67) (tgt := 76) gX gB dM_set_67 (by decide) (by omega) (fun h6 => ?_) (fun h6 => ?_)
    · skip
      refine lv_iconst (pc := 76) (v := iv 1) gX gB dM_set_76 rfl ?_
      refine lv_goto (pc := 77) (tgt := 81) gX gB dM_set_77 (by decide) ?_
      exact cut81 1 _ _ _ (by unfold setOK; omega) (lv_sub hl [1, 2, 3, 4] rfl) hP hD hS
    refine lv_iload_n (pc := 70) gX gB dM_set_70 rfl (lv_at hl 4 rfl) ?_
    refine lv_iload (pc := 71) gX gB dM_set_71 (lv_at hl 0 rfl) ?_
    refine jv_icmp_le (pc := 73) (tgt := 80) gX gB dM_set_73 (by decide) (by omega) (by omega) (fun h7 => ?_) (fun h7 => ?_)
    · skip
      refine lv_iconst (pc := 80) (v := iv 0) gX gB dM_set_80 rfl ?_
      exact cut81 0 _ _ _ (by unfold setOK; omega) (lv_sub hl [1, 2, 3, 4] rfl) hP hD hS
    refine lv_iconst (pc := 76) (v := iv 1) gX gB dM_set_76 rfl ?_
    refine lv_goto (pc := 77) (tgt := 81) gX gB dM_set_77 (by decide) ?_
    exact cut81 1 _ _ _ (by unfold setOK; omega) (lv_sub hl [1, 2, 3, 4] rfl) hP hD hS
  refine lv_iload_n (pc := 0) gX gB dM_set_0 rfl (lv_at hl 2 rfl) ?_
  refine jv_if_ne (pc := 1) (tgt := 10) gX gB dM_set_1 (by decide) (by omega) (fun h8 => ?_) (fun h8 => ?_)
  · skip
    refine lv_iload_n (pc := 10) gX gB dM_set_10 rfl (lv_at hl 2 rfl) ?_
    refine lv_iconst (pc := 11) (v := iv 1) gX gB dM_set_11 rfl ?_
    refine jv_icmp_ne (pc := 12) (tgt := 20) gX gB dM_set_12 (by decide) (by omega) (by decide) (fun h9 => ?_) (fun h9 => ?_)
    · skip
      refine lv_iload_n (pc := 20) gX gB dM_set_20 rfl (lv_at hl 2 rfl) ?_
      refine lv_iconst (pc := 21) (v := iv 2) gX gB dM_set_21 rfl ?_
      refine jv_icmp_ne (pc := 22) (tgt := 30) gX gB dM_set_22 (by decide) (by omega) (by decide) (fun h10 => ?_) (fun h10 => ?_)
      · skip
        refine lv_iload_n (pc := 30) gX gB dM_set_30 rfl (lv_at hl 2 rfl) ?_
        refine lv_iconst (pc := 31) (v := iv 3) gX gB dM_set_31 rfl ?_
        refine jv_icmp_ne (pc := 32) (tgt := 40) gX gB dM_set_32 (by decide) (by omega) (by decide) (fun h11 => ?_) (fun h11 => ?_)
        · skip
          refine lv_sipush (pc := 40) (v := iv 999) gX gB dM_set_40 (by decide) ?_
          exact cut43 999 _ _ _ (by omega) hl hP hD hS
        refine lv_bipush (pc := 35) (v := iv 11) gX gB dM_set_35 (by decide) ?_
        refine lv_goto (pc := 37) (tgt := 43) gX gB dM_set_37 (by decide) ?_
        exact cut43 11 _ _ _ (by omega) hl hP hD hS
      refine lv_bipush (pc := 25) (v := iv 12) gX gB dM_set_25 (by decide) ?_
      refine lv_goto (pc := 27) (tgt := 43) gX gB dM_set_27 (by decide) ?_
      exact cut43 12 _ _ _ (by omega) hl hP hD hS
    refine lv_bipush (pc := 15) (v := iv 9) gX gB dM_set_15 (by decide) ?_
    refine lv_goto (pc := 17) (tgt := 43) gX gB dM_set_17 (by decide) ?_
    exact cut43 9 _ _ _ (by omega) hl hP hD hS
  refine lv_sipush (pc := 4) (v := iv 254) gX gB dM_set_4 (by decide) ?_
  refine lv_goto (pc := 7) (tgt := 43) gX gB dM_set_7 (by decide) ?_
  exact cut43 254 _ _ _ (by omega) hl hP hD hS
set_option maxRecDepth 100000 in
set_option maxHeartbeats 1000000 in
theorem c_M_isShort (l : Launch) (dC : Nat → ClassId) (dI : Nat → Nat → Nat) (cI : ClassId) (cZ : ClassId) (cG : ClassId) (cR : ClassId) (ad : Nat → Nat) (th : Int) (tb : Int → Int) (fi : Int → Int) (se : Int → Int) (lf : Int → Int) (ct : Int → Int) (ln : Int) (tx : Int → Int) (kl : Int → Int) (kp : Int → Int) (fl : Int) (fo : Int → Int) (ol : Int) (ot : Int → Int) (pl : Int → Int) (ky : Int) (nu : Int → Int) (yk : Int) (yn : Int → Int) (lc : Int → Int) (fw : Int → Int) (sd : Int → Int) (lw : Int → Int) (od : Int → Int) (sz : Nat) (hv : vpt fi se) : Met l yM_isShort wsM_isShort ({ frames := 0, cells := 0, slots := 0, locals := 0 }) (va_Pc [.ref (ad 0)] (jPre (dC, dI) (jT cI cZ cG cR) (pM cI cZ cG cR ad th tb fi se lf ct ln tx kl kp fl fo ol ot pl ky nu yk yn lc fw sd lw od) sz)) (va_Qi (fun (r0 : Int32) (u : Int × (Int → Int)) => r0 = iv u.1 ∧ ((u.1 = 0 ∨ u.1 = 1) ∧ (u.1 = 1 ↔ (∀ j, 0 ≤ j → j < 40 → KC fi se j ≤ 4)))) (fun u => jEnd (dC, dI) (jT cI cZ cG cR) (va_A (pM cI cZ cG cR ad th tb fi se lf ct ln tx kl kp fl fo ol ot pl ky nu yk yn lc fw sd lw od) sz) (pM cI cZ cG cR ad th tb fi se lf u.2 ln tx kl kp fl fo ol ot pl ky nu yk yn lc fw sd lw od)) (va_A (pM cI cZ cG cR ad th tb fi se lf ct ln tx kl kp fl fo ol ot pl ky nu yk yn lc fw sd lw od) sz)) 0 0 (va_A (pM cI cZ cG cR ad th tb fi se lf ct ln tx kl kp fl fo ol ot pl ky nu yk yn lc fw sd lw od) sz) := by
  refine jv_mz (cc := cM_isShort) (maxL := 3) (by decide) rfl (Nat.le_of_ble_eq_true rfl) ?_
  intro p0 e0 s0 m0 a0 b0 t0 c0 R0 Q0 A0 ls gX gB hts hown hml hRf hRl hA hK hret hl hP hD hS
  have hown : s0.vm.findClass "TextPipelineModel" = some m0.cls := hown
  have hw0 : ∀ w ∈ WS0, w.before a0 s0 = true := fun w h => hts w (List.mem_cons_of_mem _ h)
  have hl : lv_has ls 3 [(0, .ref (ad 0))] := hl
  have hRf : 0 ≤ R0.frames := hRf
  have hRl : 0 ≤ R0.locals := hRl
  refine lv_iconst (pc := 0) (v := iv 1) gX gB dM_isShort_0 rfl ?_
  refine lv_istore_n (pc := 1) (lv' := [(1, .int (iv 1)), (0, .ref (ad 0))]) gX gB dM_isShort_1 rfl hl (by decide) rfl (fun ls hl => ?_)
  refine lv_iconst (pc := 2) (v := iv 0) gX gB dM_isShort_2 rfl ?_
  refine lv_istore_n (pc := 3) (lv' := [(2, .int (iv 0)), (1, .int (iv 1)), (0, .ref (ad 0))]) gX gB dM_isShort_3 rfl hl (by decide) rfl (fun ls hl => ?_)
  have cut4 : ∀ (n0 : Nat) (al : Int) (c : Int) (ct1 : Int → Int) (ls : Array Slot) (H : Heap) (locs : List Loc), (0 ≤ c ∧ c ≤ 40) → (al = 0 ∨ al = 1) → (∀ j, 0 ≤ j → j < c → ct1 j = KC fi se j) → (al = 1 ↔ ∀ j, 0 ≤ j → j < c → KC fi se j ≤ 4) → ((40 - c : Int).toNat < n0) → lv_has ls 3 [(0, .ref (ad 0)), (1, .int (iv al)), (2, .int (iv c))] → va_P (dC, dI) vwCl (pM cI cZ cG cR ad th tb fi se lf ct1 ln tx kl kp fl fo ol ot pl ky nu yk yn lc fw sd lw od) H → va_D A0 (pM cI cZ cG cR ad th tb fi se lf ct1 ln tx kl kp fl fo ol ot pl ky nu yk yn lc fw sd lw od) → va_S A0 s0.heap H locs → W p0 l e0 R0 s0 m0 a0 b0 t0 c0 H locs 0 0 Q0 (F0 m0 4 ls []) := by
    intro n0
    induction n0 with
    | zero => intro al c ct1 ls H locs hc ha hq hal hm hl hP hD hS; exact absurd hm (Nat.not_lt_zero _)
    | succ n0 ih4 =>
      intro al c ct1 ls H locs hc ha hq hal hm4 hl hP hD hS
      refine lv_iload_n (pc := 4) gX gB dM_isShort_4 rfl (lv_at hl 2 rfl) ?_
      refine lv_bipush (pc := 5) (v := iv 40) gX gB dM_isShort_5 (by decide) ?_
      refine jv_icmp_ge (pc := 7) (tgt := 117) gX gB dM_isShort_7 (by decide) (by omega) (by decide) (fun h1 => ?_) (fun h1 => ?_)
      · skip
        refine lv_iload_n (pc := 117) gX gB dM_isShort_117 rfl (lv_at hl 1 rfl) ?_
        exact hret _ (al, ct1) dM_isShort_118 (by rcases ha with rfl | rfl; exact Or.inl rfl; exact Or.inr rfl) ⟨rfl, by first | (dsimp only; refine ⟨ha, ?_⟩; rw [hal, show c = 40 by omega]) | (refine ⟨ha, ?_⟩; rw [hal, show c = 40 by omega])⟩ hP hD hS
      have hvc := hv c (by omega) (by omega)
      have hkc := KC_rng hv 40 c (by omega) (by omega) (by omega)
      refine lv_aload_n (pc := 10) gX gB dM_isShort_10 rfl (lv_at hl 0 rfl) ?_
      refine va_get (pc := 11) (D := (dC, dI)) (ci := 5) (v := .ref (ad 5)) (C := RM) (T := TM) (N := 24) gX gB hw0 inM hown hK hP 0 rfl rfl 5 (by decide) (hw0 _ q656) (fun _ h9 => h9) rfl dM_isShort_11 ?_
      refine lv_iload_n (pc := 14) gX gB dM_isShort_14 rfl (lv_at hl 2 rfl) ?_
      have cut64 : ∀ (x : Int) (ls : Array Slot) (H : Heap) (locs : List Loc), ((fi c < 0 ∧ x = 1) ∨ (0 ≤ fi c ∧ se c < 0 ∧ x = KC fi se (fi c)) ∨ (0 ≤ fi c ∧ 0 ≤ se c ∧ x = KC fi se (fi c) + KC fi se (se c))) → lv_has ls 3 [(0, .ref (ad 0)), (1, .int (iv al)), (2, .int (iv c))] → va_P (dC, dI) vwCl (pM cI cZ cG cR ad th tb fi se lf ct1 ln tx kl kp fl fo ol ot pl ky nu yk yn lc fw sd lw od) H → va_D A0 (pM cI cZ cG cR ad th tb fi se lf ct1 ln tx kl kp fl fo ol ot pl ky nu yk yn lc fw sd lw od) → va_S A0 s0.heap H locs → W p0 l e0 R0 s0 m0 a0 b0 t0 c0 H locs 0 0 Q0 (F0 m0 64 ls [.int (iv x), .int (iv c), .ref (ad 5)]) := by
        intro x ls H locs hxx hl hP hD hS
        refine jv_iast (pc := 64) (ws' := (pM cI cZ cG cR ad th tb fi se lf (uI ct1 c x) ln tx kl kp fl fo ol ot pl ky nu yk yn lc fw sd lw od)) gX gB hK hP hD hS 5 0 rfl rfl (by decide) (by omega) dM_isShort_64 rfl (fun H locs hP hD hS => ?_)
        obtain ⟨ct2, ect2⟩ : ∃ z, z = (uI ct1 c x) := ⟨_, rfl⟩
        rw [← ect2] at hP hD
        have hk1 : 0 ≤ fi c → 1 ≤ KC fi se (fi c) ∧ KC fi se (fi c) ≤ 5 := fun z => KC_rng hv 40 (fi c) z (by omega) (by omega)
        have hk2 : 0 ≤ se c → 1 ≤ KC fi se (se c) ∧ KC fi se (se c) ≤ 5 := fun z => KC_rng hv 40 (se c) z (by omega) (by omega)
        have hxr : 1 ≤ x ∧ x ≤ 10 := by omega
        have hc2 : ct2 c = x := by rw [ect2]; exact uI_s
        refine lv_aload_n (pc := 65) gX gB dM_isShort_65 rfl (lv_at hl 0 rfl) ?_
        refine va_get (pc := 66) (D := (dC, dI)) (ci := 5) (v := .ref (ad 5)) (C := RM) (T := TM) (N := 24) gX gB hw0 inM hown hK hP 0 rfl rfl 5 (by decide) (hw0 _ q656) (fun _ h9 => h9) rfl dM_isShort_66 ?_
        refine lv_iload_n (pc := 69) gX gB dM_isShort_69 rfl (lv_at hl 2 rfl) ?_
        have cut90 : ∀ (y : Int) (ls : Array Slot) (H : Heap) (locs : List Loc), (y = KC fi se c) → lv_has ls 3 [(0, .ref (ad 0)), (1, .int (iv al)), (2, .int (iv c))] → va_P (dC, dI) vwCl (pM cI cZ cG cR ad th tb fi se lf ct2 ln tx kl kp fl fo ol ot pl ky nu yk yn lc fw sd lw od) H → va_D A0 (pM cI cZ cG cR ad th tb fi se lf ct2 ln tx kl kp fl fo ol ot pl ky nu yk yn lc fw sd lw od) → va_S A0 s0.heap H locs → W p0 l e0 R0 s0 m0 a0 b0 t0 c0 H locs 0 0 Q0 (F0 m0 90 ls [.int (iv y), .int (iv c), .ref (ad 5)]) := by
          intro y ls H locs hy hl hP hD hS
          refine jv_iast (pc := 90) (ws' := (pM cI cZ cG cR ad th tb fi se lf (uI ct2 c y) ln tx kl kp fl fo ol ot pl ky nu yk yn lc fw sd lw od)) gX gB hK hP hD hS 5 0 rfl rfl (by decide) (by omega) dM_isShort_90 rfl (fun H locs hP hD hS => ?_)
          obtain ⟨ct3, ect3⟩ : ∃ z, z = (uI ct2 c y) := ⟨_, rfl⟩
          rw [← ect3] at hP hD
          have hc3 : ct3 c = y := by rw [ect3]; exact uI_s
          have cut110 : ∀ (al2 : Int) (ls : Array Slot) (H : Heap) (locs : List Loc), (al2 = 0 ∨ al2 = 1) → (al2 = 1 ↔ (al = 1 ∧ KC fi se c ≤ 4)) → lv_has ls 3 [(0, .ref (ad 0)), (1, .int (iv al)), (2, .int (iv c))] → va_P (dC, dI) vwCl (pM cI cZ cG cR ad th tb fi se lf ct3 ln tx kl kp fl fo ol ot pl ky nu yk yn lc fw sd lw od) H → va_D A0 (pM cI cZ cG cR ad th tb fi se lf ct3 ln tx kl kp fl fo ol ot pl ky nu yk yn lc fw sd lw od) → va_S A0 s0.heap H locs → W p0 l e0 R0 s0 m0 a0 b0 t0 c0 H locs 0 0 Q0 (F0 m0 110 ls [.int (iv al2)]) := by
            intro al2 ls H locs ha2 hb2 hl hP hD hS
            refine lv_istore_n (pc := 110) (lv' := [(1, .int (iv al2)), (0, .ref (ad 0)), (2, .int (iv c))]) gX gB dM_isShort_110 rfl hl (by decide) rfl (fun ls hl => ?_)
            refine jv_iinc (pc := 111) (k := 2) (x := c) (n := 1) (lv' := [(2, .int (iv (c + 1))), (1, .int (iv al2)), (0, .ref (ad 0))]) gX gB dM_isShort_111 hl rfl (by decide) rfl (fun ls hl => ?_)
            refine lv_goto (pc := 114) (tgt := 4) gX gB dM_isShort_114 (by decide) ?_
            exact ih4 al2 (c + 1) ct3 _ _ _ (by omega) (by omega) (by exact all_succ (fun j h1 h2 => by rw [ect3, uI_n (by omega), ect2, uI_n (by omega)]; exact hq j h1 h2) (by omega)) (by rw [hb2, hal]; exact ⟨fun h => all_succ h.1 h.2, fun h => ⟨fun j h1 h2 => h j h1 (by omega), h c (by omega) (by omega)⟩⟩) (by omega) (lv_sub hl [2, 1, 0] rfl) hP hD hS
          refine lv_iload_n (pc := 91) gX gB dM_isShort_91 rfl (lv_at hl 1 rfl) ?_
          refine jv_if_eq (pc := 92) (tgt := 109) gX gB dM_isShort_92 (by decide) (by omega) (fun h2 => ?_) (fun h2 => ?_)
          · skip
            refine lv_iconst (pc := 109) (v := iv 0) gX gB dM_isShort_109 rfl ?_
            exact cut110 0 _ _ _ (by omega) (by omega) hl hP hD hS
          refine lv_aload_n (pc := 95) gX gB dM_isShort_95 rfl (lv_at hl 0 rfl) ?_
          refine va_get (pc := 96) (D := (dC, dI)) (ci := 5) (v := .ref (ad 5)) (C := RM) (T := TM) (N := 24) gX gB hw0 inM hown hK hP 0 rfl rfl 5 (by decide) (hw0 _ q656) (fun _ h9 => h9) rfl dM_isShort_96 ?_
          refine lv_iload_n (pc := 99) gX gB dM_isShort_99 rfl (lv_at hl 2 rfl) ?_
          refine jv_iald (pc := 100) gX gB hK hP 5 0 rfl rfl (by decide) (by omega) dM_isShort_100 ?_
          refine lv_iconst (pc := 101) (v := iv 4) gX gB dM_isShort_101 rfl ?_
          refine jv_icmp_gt (pc := 102) (tgt := 109) gX gB dM_isShort_102 (by decide) (by omega) (by decide) (fun h3 => ?_) (fun h3 => ?_)
          · skip
            refine lv_iconst (pc := 109) (v := iv 0) gX gB dM_isShort_109 rfl ?_
            exact cut110 0 _ _ _ (by omega) (by omega) hl hP hD hS
          refine lv_iconst (pc := 105) (v := iv 1) gX gB dM_isShort_105 rfl ?_
          refine lv_goto (pc := 106) (tgt := 110) gX gB dM_isShort_106 (by decide) ?_
          exact cut110 1 _ _ _ (by omega) (by omega) hl hP hD hS
        refine lv_aload_n (pc := 70) gX gB dM_isShort_70 rfl (lv_at hl 0 rfl) ?_
        refine va_get (pc := 71) (D := (dC, dI)) (ci := 5) (v := .ref (ad 5)) (C := RM) (T := TM) (N := 24) gX gB hw0 inM hown hK hP 0 rfl rfl 5 (by decide) (hw0 _ q656) (fun _ h9 => h9) rfl dM_isShort_71 ?_
        refine lv_iload_n (pc := 74) gX gB dM_isShort_74 rfl (lv_at hl 2 rfl) ?_
        refine jv_iald (pc := 75) gX gB hK hP 5 0 rfl rfl (by decide) (by omega) dM_isShort_75 ?_
        refine lv_iconst (pc := 76) (v := iv 5) gX gB dM_isShort_76 rfl ?_
        refine jv_icmp_le (pc := 77) (tgt := 84) gX gB dM_isShort_77 (by decide) (by omega) (by decide) (fun h4 => ?_) (fun h4 => ?_)
        · skip
          refine lv_aload_n (pc := 84) gX gB dM_isShort_84 rfl (lv_at hl 0 rfl) ?_
          refine va_get (pc := 85) (D := (dC, dI)) (ci := 5) (v := .ref (ad 5)) (C := RM) (T := TM) (N := 24) gX gB hw0 inM hown hK hP 0 rfl rfl 5 (by decide) (hw0 _ q656) (fun _ h9 => h9) rfl dM_isShort_85 ?_
          refine lv_iload_n (pc := 88) gX gB dM_isShort_88 rfl (lv_at hl 2 rfl) ?_
          refine jv_iald (pc := 89) gX gB hK hP 5 0 rfl rfl (by decide) (by omega) dM_isShort_89 ?_
          exact cut90 (ct2 c) _ _ _ (by exact KC_step hv (by omega) (by omega) hxx (by omega)) hl hP hD hS
        refine lv_iconst (pc := 80) (v := iv 5) gX gB dM_isShort_80 rfl ?_
        refine lv_goto (pc := 81) (tgt := 90) gX gB dM_isShort_81 (by decide) ?_
        exact cut90 5 _ _ _ (by exact KC_step hv (by omega) (by omega) hxx (by omega)) hl hP hD hS
      refine lv_aload_n (pc := 15) gX gB dM_isShort_15 rfl (lv_at hl 0 rfl) ?_
      refine va_get (pc := 16) (D := (dC, dI)) (ci := 5) (v := .ref (ad 2)) (C := RM) (T := TM) (N := 24) gX gB hw0 inM hown hK hP 0 rfl rfl 2 (by decide) (hw0 _ q653) (fun _ h9 => h9) rfl dM_isShort_16 ?_
      refine lv_iload_n (pc := 19) gX gB dM_isShort_19 rfl (lv_at hl 2 rfl) ?_
      refine jv_iald (pc := 20) gX gB hK hP 2 0 rfl rfl (by decide) (by omega) dM_isShort_20 ?_
      refine jv_if_ge (pc := 21) (tgt := 28) gX gB dM_isShort_21 (by decide) (by omega) (fun h5 => ?_) (fun h5 => ?_)
      · skip
        refine lv_aload_n (pc := 28) gX gB dM_isShort_28 rfl (lv_at hl 0 rfl) ?_
        refine va_get (pc := 29) (D := (dC, dI)) (ci := 5) (v := .ref (ad 5)) (C := RM) (T := TM) (N := 24) gX gB hw0 inM hown hK hP 0 rfl rfl 5 (by decide) (hw0 _ q656) (fun _ h9 => h9) rfl dM_isShort_29 ?_
        refine lv_aload_n (pc := 32) gX gB dM_isShort_32 rfl (lv_at hl 0 rfl) ?_
        refine va_get (pc := 33) (D := (dC, dI)) (ci := 5) (v := .ref (ad 2)) (C := RM) (T := TM) (N := 24) gX gB hw0 inM hown hK hP 0 rfl rfl 2 (by decide) (hw0 _ q653) (fun _ h9 => h9) rfl dM_isShort_33 ?_
        refine lv_iload_n (pc := 36) gX gB dM_isShort_36 rfl (lv_at hl 2 rfl) ?_
        refine jv_iald (pc := 37) gX gB hK hP 2 0 rfl rfl (by decide) (by omega) dM_isShort_37 ?_
        refine jv_iald (pc := 38) gX gB hK hP 5 0 rfl rfl (by decide) (by omega) dM_isShort_38 ?_
        refine lv_aload_n (pc := 39) gX gB dM_isShort_39 rfl (lv_at hl 0 rfl) ?_
        refine va_get (pc := 40) (D := (dC, dI)) (ci := 5) (v := .ref (ad 3)) (C := RM) (T := TM) (N := 24) gX gB hw0 inM hown hK hP 0 rfl rfl 3 (by decide) (hw0 _ q654) (fun _ h9 => h9) rfl dM_isShort_40 ?_
        refine lv_iload_n (pc := 43) gX gB dM_isShort_43 rfl (lv_at hl 2 rfl) ?_
        refine jv_iald (pc := 44) gX gB hK hP 3 0 rfl rfl (by decide) (by omega) dM_isShort_44 ?_
        refine jv_if_ge (pc := 45) (tgt := 52) gX gB dM_isShort_45 (by decide) (by omega) (fun h6 => ?_) (fun h6 => ?_)
        · skip
          refine lv_aload_n (pc := 52) gX gB dM_isShort_52 rfl (lv_at hl 0 rfl) ?_
          refine va_get (pc := 53) (D := (dC, dI)) (ci := 5) (v := .ref (ad 5)) (C := RM) (T := TM) (N := 24) gX gB hw0 inM hown hK hP 0 rfl rfl 5 (by decide) (hw0 _ q656) (fun _ h9 => h9) rfl dM_isShort_53 ?_
          refine lv_aload_n (pc := 56) gX gB dM_isShort_56 rfl (lv_at hl 0 rfl) ?_
          refine va_get (pc := 57) (D := (dC, dI)) (ci := 5) (v := .ref (ad 3)) (C := RM) (T := TM) (N := 24) gX gB hw0 inM hown hK hP 0 rfl rfl 3 (by decide) (hw0 _ q654) (fun _ h9 => h9) rfl dM_isShort_57 ?_
          refine lv_iload_n (pc := 60) gX gB dM_isShort_60 rfl (lv_at hl 2 rfl) ?_
          refine jv_iald (pc := 61) gX gB hK hP 3 0 rfl rfl (by decide) (by omega) dM_isShort_61 ?_
          refine jv_iald (pc := 62) gX gB hK hP 5 0 rfl rfl (by decide) (by omega) dM_isShort_62 ?_
          refine jv_iadd (pc := 63) (x := ct1 (fi c)) (y := ct1 (se c)) gX gB dM_isShort_63 ?_
          exact cut64 ((ct1 (fi c)) + (ct1 (se c))) _ _ _ (by first | omega | (have e1 := hq (fi c) (by omega) (by omega); first | omega | (have e2 := hq (se c) (by omega) (by omega); omega))) hl hP hD hS
        refine lv_iconst (pc := 48) (v := iv 0) gX gB dM_isShort_48 rfl ?_
        refine lv_goto (pc := 49) (tgt := 63) gX gB dM_isShort_49 (by decide) ?_
        refine jv_iadd (pc := 63) (x := ct1 (fi c)) (y := 0) gX gB dM_isShort_63 ?_
        exact cut64 ((ct1 (fi c)) + 0) _ _ _ (by first | omega | (have e1 := hq (fi c) (by omega) (by omega); first | omega | (have e2 := hq (se c) (by omega) (by omega); omega))) hl hP hD hS
      refine lv_iconst (pc := 24) (v := iv 1) gX gB dM_isShort_24 rfl ?_
      refine lv_goto (pc := 25) (tgt := 64) gX gB dM_isShort_25 (by decide) ?_
      exact cut64 1 _ _ _ (by first | omega | (have e1 := hq (fi c) (by omega) (by omega); first | omega | (have e2 := hq (se c) (by omega) (by omega); omega))) hl hP hD hS
  exact cut4 (((40 - 0 : Int).toNat) + 1) 1 0 ct _ _ _ (by omega) (by omega) (by intro j h1 h2; omega) (by exact ⟨fun _ j h1 h2 => by omega, fun _ => rfl⟩) (Nat.lt_succ_self _) (lv_sub hl [2, 1, 0] rfl) hP hD hS
set_option maxRecDepth 100000 in
set_option maxHeartbeats 1000000 in
theorem c_M_put (l : Launch) (dC : Nat → ClassId) (dI : Nat → Nat → Nat) (cI : ClassId) (cZ : ClassId) (cG : ClassId) (cR : ClassId) (ad : Nat → Nat) (th : Int) (tb : Int → Int) (fi : Int → Int) (se : Int → Int) (lf : Int → Int) (ct : Int → Int) (ln : Int) (tx : Int → Int) (kl : Int → Int) (kp : Int → Int) (fl : Int) (fo : Int → Int) (ol : Int) (ot : Int → Int) (pl : Int → Int) (ky : Int) (nu : Int → Int) (yk : Int) (yn : Int → Int) (lc : Int → Int) (fw : Int → Int) (sd : Int → Int) (lw : Int → Int) (od : Int → Int) (sz : Nat) (c : Int) (hp : 0 ≤ fl ∧ fl < 170) : Met l yM_put wsM_put ({ frames := 0, cells := 0, slots := 0, locals := 0 }) (va_Pc [.ref (ad 0), .int (iv c)] (jPre (dC, dI) (jT cI cZ cG cR) (pM cI cZ cG cR ad th tb fi se lf ct ln tx kl kp fl fo ol ot pl ky nu yk yn lc fw sd lw od) sz)) (va_Qv (fun u : Int × (Int → Int) => u.1 = fl + 1 ∧ u.2 = uI fo fl c) (fun u => jEnd (dC, dI) (jT cI cZ cG cR) (va_A (pM cI cZ cG cR ad th tb fi se lf ct ln tx kl kp fl fo ol ot pl ky nu yk yn lc fw sd lw od) sz) (pM cI cZ cG cR ad th tb fi se lf ct ln tx kl kp u.1 u.2 ol ot pl ky nu yk yn lc fw sd lw od)) (va_A (pM cI cZ cG cR ad th tb fi se lf ct ln tx kl kp fl fo ol ot pl ky nu yk yn lc fw sd lw od) sz)) 0 0 (va_A (pM cI cZ cG cR ad th tb fi se lf ct ln tx kl kp fl fo ol ot pl ky nu yk yn lc fw sd lw od) sz) := by
  refine jv_mv (cc := cM_put) (maxL := 2) (by decide) rfl (Nat.le_of_ble_eq_true rfl) ?_
  intro p0 e0 s0 m0 a0 b0 t0 c0 R0 Q0 A0 ls gX gB hts hown hml hRf hRl hA hK hret hl hP hD hS
  have hown : s0.vm.findClass "TextPipelineModel" = some m0.cls := hown
  have hw0 : ∀ w ∈ WS0, w.before a0 s0 = true := fun w h => hts w (List.mem_cons_of_mem _ h)
  have hl : lv_has ls 2 [(0, .ref (ad 0)), (1, .int (iv c))] := hl
  have hRf : 0 ≤ R0.frames := hRf
  have hRl : 0 ≤ R0.locals := hRl
  refine lv_aload_n (pc := 0) gX gB dM_put_0 rfl (lv_at hl 0 rfl) ?_
  refine va_get (pc := 1) (D := (dC, dI)) (ci := 5) (v := .ref (ad 11)) (C := RM) (T := TM) (N := 24) gX gB hw0 inM hown hK hP 0 rfl rfl 11 (by decide) (hw0 _ q662) (fun _ h9 => h9) rfl dM_put_1 ?_
  refine lv_aload_n (pc := 4) gX gB dM_put_4 rfl (lv_at hl 0 rfl) ?_
  refine va_get (pc := 5) (D := (dC, dI)) (ci := 5) (v := .int (iv fl)) (C := RM) (T := TM) (N := 24) gX gB hw0 inM hown hK hP 0 rfl rfl 10 (by decide) (hw0 _ q661) (fun _ h9 => h9) rfl dM_put_5 ?_
  refine lv_iload_n (pc := 8) gX gB dM_put_8 rfl (lv_at hl 1 rfl) ?_
  refine jv_iast (pc := 9) (ws' := (pM cI cZ cG cR ad th tb fi se lf ct ln tx kl kp fl (uI fo fl c) ol ot pl ky nu yk yn lc fw sd lw od)) gX gB hK hP hD hS 9 0 rfl rfl (by decide) (by omega) dM_put_9 rfl (fun H locs hP hD hS => ?_)
  refine lv_aload_n (pc := 10) gX gB dM_put_10 rfl (lv_at hl 0 rfl) ?_
  refine lv_dup (pc := 11) gX gB dM_put_11 rfl ?_
  refine va_get (pc := 12) (D := (dC, dI)) (ci := 5) (v := .int (iv fl)) (C := RM) (T := TM) (N := 24) gX gB hw0 inM hown hK hP 0 rfl rfl 10 (by decide) (hw0 _ q661) (fun _ h9 => h9) rfl dM_put_12 ?_
  refine lv_iconst (pc := 15) (v := iv 1) gX gB dM_put_15 rfl ?_
  refine jv_iadd (pc := 16) (x := fl) (y := 1) gX gB dM_put_16 ?_
  refine jv_put (pc := 17) (D := (dC, dI)) (ci := 5) (v := .int (iv (fl + 1))) (ty := .int) (C := RM) (T := TM) (N := 24) (ws' := (pM cI cZ cG cR ad th tb fi se lf ct ln tx kl kp (fl + 1) (uI fo fl c) ol ot pl ky nu yk yn lc fw sd lw od)) gX gB hw0 inM tyM tyM_ok nmM hown hK hP hD hS 0 rfl rfl 10 (by decide) (hw0 _ q661) (fun _ h9 => h9) rfl (by decide +kernel) rfl rfl (Nat.le_of_ble_eq_true rfl) dM_put_17 rfl (fun H locs hP hD hS => ?_)
  exact hret (fl + 1, (uI fo fl c)) dM_put_20 (by first | (dsimp only; exact ⟨rfl, rfl⟩) | (exact ⟨rfl, rfl⟩)) hP hD hS
set_option maxRecDepth 100000 in
set_option maxHeartbeats 1000000 in
theorem c_M_wipe (l : Launch) (dC : Nat → ClassId) (dI : Nat → Nat → Nat) (cI : ClassId) (cZ : ClassId) (cG : ClassId) (cR : ClassId) (ad : Nat → Nat) (th : Int) (tb : Int → Int) (fi : Int → Int) (se : Int → Int) (lf : Int → Int) (ct : Int → Int) (ln : Int) (tx : Int → Int) (kl : Int → Int) (kp : Int → Int) (fl : Int) (fo : Int → Int) (ol : Int) (ot : Int → Int) (pl : Int → Int) (ky : Int) (nu : Int → Int) (yk : Int) (yn : Int → Int) (lc : Int → Int) (fw : Int → Int) (sd : Int → Int) (lw : Int → Int) (od : Int → Int) (sz : Nat) : Met l yM_wipe wsM_wipe ({ frames := 0, cells := 0, slots := 0, locals := 0 }) (va_Pc [.ref (ad 0)] (jPre (dC, dI) (jT cI cZ cG cR) (pM cI cZ cG cR ad th tb fi se lf ct ln tx kl kp fl fo ol ot pl ky nu yk yn lc fw sd lw od) sz)) (va_Qv (fun u : Int × Int => u.1 = 0 ∧ u.2 = 0) (fun u => jEnd (dC, dI) (jT cI cZ cG cR) (va_A (pM cI cZ cG cR ad th tb fi se lf ct ln tx kl kp fl fo ol ot pl ky nu yk yn lc fw sd lw od) sz) (pM cI cZ cG cR ad u.1 tb fi se lf ct u.2 tx kl kp fl fo ol ot pl ky nu yk yn lc fw sd lw od)) (va_A (pM cI cZ cG cR ad th tb fi se lf ct ln tx kl kp fl fo ol ot pl ky nu yk yn lc fw sd lw od) sz)) 0 0 (va_A (pM cI cZ cG cR ad th tb fi se lf ct ln tx kl kp fl fo ol ot pl ky nu yk yn lc fw sd lw od) sz) := by
  refine jv_mv (cc := cM_wipe) (maxL := 1) (by decide) rfl (Nat.le_of_ble_eq_true rfl) ?_
  intro p0 e0 s0 m0 a0 b0 t0 c0 R0 Q0 A0 ls gX gB hts hown hml hRf hRl hA hK hret hl hP hD hS
  have hown : s0.vm.findClass "TextPipelineModel" = some m0.cls := hown
  have hw0 : ∀ w ∈ WS0, w.before a0 s0 = true := fun w h => hts w (List.mem_cons_of_mem _ h)
  have hl : lv_has ls 1 [(0, .ref (ad 0))] := hl
  have hRf : 0 ≤ R0.frames := hRf
  have hRl : 0 ≤ R0.locals := hRl
  refine lv_aload_n (pc := 0) gX gB dM_wipe_0 rfl (lv_at hl 0 rfl) ?_
  refine lv_iconst (pc := 1) (v := iv 0) gX gB dM_wipe_1 rfl ?_
  refine jv_put (pc := 2) (D := (dC, dI)) (ci := 5) (v := .int (iv 0)) (ty := .int) (C := RM) (T := TM) (N := 24) (ws' := (pM cI cZ cG cR ad 0 tb fi se lf ct ln tx kl kp fl fo ol ot pl ky nu yk yn lc fw sd lw od)) gX gB hw0 inM tyM tyM_ok nmM hown hK hP hD hS 0 rfl rfl 0 (by decide) (hw0 _ q651) (fun _ h9 => h9) rfl (by decide +kernel) rfl rfl (Nat.le_of_ble_eq_true rfl) dM_wipe_2 rfl (fun H locs hP hD hS => ?_)
  refine lv_aload_n (pc := 5) gX gB dM_wipe_5 rfl (lv_at hl 0 rfl) ?_
  refine lv_iconst (pc := 6) (v := iv 0) gX gB dM_wipe_6 rfl ?_
  refine jv_put (pc := 7) (D := (dC, dI)) (ci := 5) (v := .int (iv 0)) (ty := .int) (C := RM) (T := TM) (N := 24) (ws' := (pM cI cZ cG cR ad 0 tb fi se lf ct 0 tx kl kp fl fo ol ot pl ky nu yk yn lc fw sd lw od)) gX gB hw0 inM tyM tyM_ok nmM hown hK hP hD hS 0 rfl rfl 6 (by decide) (hw0 _ q657) (fun _ h9 => h9) rfl (by decide +kernel) rfl rfl (Nat.le_of_ble_eq_true rfl) dM_wipe_7 rfl (fun H locs hP hD hS => ?_)
  exact hret (0, 0) dM_wipe_10 (by first | (dsimp only; exact ⟨rfl, rfl⟩) | (exact ⟨rfl, rfl⟩)) hP hD hS
set_option maxRecDepth 100000 in
set_option maxHeartbeats 1000000 in
theorem c_M_type (l : Launch) (dC : Nat → ClassId) (dI : Nat → Nat → Nat) (cI : ClassId) (cZ : ClassId) (cG : ClassId) (cR : ClassId) (ad : Nat → Nat) (th : Int) (tb : Int → Int) (fi : Int → Int) (se : Int → Int) (lf : Int → Int) (ct : Int → Int) (ln : Int) (tx : Int → Int) (kl : Int → Int) (kp : Int → Int) (fl : Int) (fo : Int → Int) (ol : Int) (ot : Int → Int) (pl : Int → Int) (ky : Int) (nu : Int → Int) (yk : Int) (yn : Int → Int) (lc : Int → Int) (fw : Int → Int) (sd : Int → Int) (lw : Int → Int) (od : Int → Int) (sz : Nat) (c : Int) (hc : -2147483648 ≤ c ∧ c < 2147483648) (hl9 : 0 ≤ ln ∧ ln ≤ 40) : Met l yM_type wsM_type ({ frames := 0, cells := 0, slots := 0, locals := 0 }) (va_Pc [.ref (ad 0), .int (iv c)] (jPre (dC, dI) (jT cI cZ cG cR) (pM cI cZ cG cR ad th tb fi se lf ct ln tx kl kp fl fo ol ot pl ky nu yk yn lc fw sd lw od) sz)) (va_Qi (fun (r0 : Int32) (u : Int × Int × Int × (Int → Int)) => r0 = iv u.1 ∧ (((c < 0 ∨ 74 < c) ∧ u.2.1 = 1 ∧ u.2.2.1 = ln ∧ u.2.2.2 = tx) ∨ (0 ≤ c ∧ c ≤ 74 ∧ ln = 40 ∧ u.2.1 = 2 ∧ u.2.2.1 = ln ∧ u.2.2.2 = tx) ∨ (0 ≤ c ∧ c ≤ 74 ∧ ln < 40 ∧ u.2.1 = 0 ∧ u.2.2.1 = ln + 1 ∧ u.2.2.2 = uI tx ln c ∧ u.1 = ln + 1))) (fun u => jEnd (dC, dI) (jT cI cZ cG cR) (va_A (pM cI cZ cG cR ad th tb fi se lf ct ln tx kl kp fl fo ol ot pl ky nu yk yn lc fw sd lw od) sz) (pM cI cZ cG cR ad u.2.1 tb fi se lf ct u.2.2.1 u.2.2.2 kl kp fl fo ol ot pl ky nu yk yn lc fw sd lw od)) (va_A (pM cI cZ cG cR ad th tb fi se lf ct ln tx kl kp fl fo ol ot pl ky nu yk yn lc fw sd lw od) sz)) 0 0 (va_A (pM cI cZ cG cR ad th tb fi se lf ct ln tx kl kp fl fo ol ot pl ky nu yk yn lc fw sd lw od) sz) := by
  refine jv_mi (cc := cM_type) (maxL := 2) (by decide) rfl (Nat.le_of_ble_eq_true rfl) ?_
  intro p0 e0 s0 m0 a0 b0 t0 c0 R0 Q0 A0 ls gX gB hts hown hml hRf hRl hA hK hret hl hP hD hS
  have hown : s0.vm.findClass "TextPipelineModel" = some m0.cls := hown
  have hw0 : ∀ w ∈ WS0, w.before a0 s0 = true := fun w h => hts w (List.mem_cons_of_mem _ h)
  have hl : lv_has ls 2 [(0, .ref (ad 0)), (1, .int (iv c))] := hl
  have hRf : 0 ≤ R0.frames := hRf
  have hRl : 0 ≤ R0.locals := hRl
  refine lv_aload_n (pc := 0) gX gB dM_type_0 rfl (lv_at hl 0 rfl) ?_
  refine lv_iload_n (pc := 1) gX gB dM_type_1 rfl (lv_at hl 1 rfl) ?_
  refine jv_if_lt (pc := 2) (tgt := 11) gX gB dM_type_2 (by decide) (by omega) (fun h1 => ?_) (fun h1 => ?_)
  · skip
    refine lv_iconst (pc := 11) (v := iv 1) gX gB dM_type_11 rfl ?_
    refine lv_goto (pc := 12) (tgt := 29) gX gB dM_type_12 (by decide) ?_
    refine jv_put (pc := 29) (D := (dC, dI)) (ci := 5) (v := .int (iv 1)) (ty := .int) (C := RM) (T := TM) (N := 24) (ws' := (pM cI cZ cG cR ad 1 tb fi se lf ct ln tx kl kp fl fo ol ot pl ky nu yk yn lc fw sd lw od)) gX gB hw0 inM tyM tyM_ok nmM hown hK hP hD hS 0 rfl rfl 0 (by decide) (hw0 _ q651) (fun _ h9 => h9) rfl (by decide +kernel) rfl rfl (Nat.le_of_ble_eq_true rfl) dM_type_29 rfl (fun H locs hP hD hS => ?_)
    refine lv_aload_n (pc := 32) gX gB dM_type_32 rfl (lv_at hl 0 rfl) ?_
    refine va_get (pc := 33) (D := (dC, dI)) (ci := 5) (v := .int (iv 1)) (C := RM) (T := TM) (N := 24) gX gB hw0 inM hown hK hP 0 rfl rfl 0 (by decide) (hw0 _ q651) (fun _ h9 => h9) rfl dM_type_33 ?_
    refine jv_if_eq (pc := 36) (tgt := 41) gX gB dM_type_36 (by decide) (by decide) (fun h2 => ?_) (fun h2 => ?_)
    · exact absurd h2 (by decide)
    refine lv_iconst (pc := 39) (v := iv 0) gX gB dM_type_39 rfl ?_
    exact hret _ (0, 1, ln, tx) dM_type_40 ⟨rfl, by first | (dsimp only; first | exact Or.inl ⟨by omega, rfl, rfl, rfl⟩ | exact Or.inr (Or.inl ⟨by omega, by omega, by omega, rfl, rfl, rfl⟩) | exact Or.inr (Or.inr ⟨by omega, by omega, by omega, rfl, rfl, rfl, rfl⟩)) | (first | exact Or.inl ⟨by omega, rfl, rfl, rfl⟩ | exact Or.inr (Or.inl ⟨by omega, by omega, by omega, rfl, rfl, rfl⟩) | exact Or.inr (Or.inr ⟨by omega, by omega, by omega, rfl, rfl, rfl, rfl⟩))⟩ hP hD hS
  refine lv_iload_n (pc := 5) gX gB dM_type_5 rfl (lv_at hl 1 rfl) ?_
  refine lv_bipush (pc := 6) (v := iv 74) gX gB dM_type_6 (by decide) ?_
  refine jv_icmp_le (pc := 8) (tgt := 15) gX gB dM_type_8 (by decide) (by omega) (by decide) (fun h3 => ?_) (fun h3 => ?_)
  · skip
    refine lv_aload_n (pc := 15) gX gB dM_type_15 rfl (lv_at hl 0 rfl) ?_
    refine va_get (pc := 16) (D := (dC, dI)) (ci := 5) (v := .int (iv ln)) (C := RM) (T := TM) (N := 24) gX gB hw0 inM hown hK hP 0 rfl rfl 6 (by decide) (hw0 _ q657) (fun _ h9 => h9) rfl dM_type_16 ?_
    refine lv_bipush (pc := 19) (v := iv 40) gX gB dM_type_19 (by decide) ?_
    refine jv_icmp_ne (pc := 21) (tgt := 28) gX gB dM_type_21 (by decide) (by omega) (by decide) (fun h4 => ?_) (fun h4 => ?_)
    · skip
      refine lv_iconst (pc := 28) (v := iv 0) gX gB dM_type_28 rfl ?_
      refine jv_put (pc := 29) (D := (dC, dI)) (ci := 5) (v := .int (iv 0)) (ty := .int) (C := RM) (T := TM) (N := 24) (ws' := (pM cI cZ cG cR ad 0 tb fi se lf ct ln tx kl kp fl fo ol ot pl ky nu yk yn lc fw sd lw od)) gX gB hw0 inM tyM tyM_ok nmM hown hK hP hD hS 0 rfl rfl 0 (by decide) (hw0 _ q651) (fun _ h9 => h9) rfl (by decide +kernel) rfl rfl (Nat.le_of_ble_eq_true rfl) dM_type_29 rfl (fun H locs hP hD hS => ?_)
      refine lv_aload_n (pc := 32) gX gB dM_type_32 rfl (lv_at hl 0 rfl) ?_
      refine va_get (pc := 33) (D := (dC, dI)) (ci := 5) (v := .int (iv 0)) (C := RM) (T := TM) (N := 24) gX gB hw0 inM hown hK hP 0 rfl rfl 0 (by decide) (hw0 _ q651) (fun _ h9 => h9) rfl dM_type_33 ?_
      refine jv_if_eq (pc := 36) (tgt := 41) gX gB dM_type_36 (by decide) (by decide) (fun h5 => ?_) (fun h5 => ?_)
      rotate_left
      · exact absurd h5 (by decide)
      refine lv_aload_n (pc := 41) gX gB dM_type_41 rfl (lv_at hl 0 rfl) ?_
      refine va_get (pc := 42) (D := (dC, dI)) (ci := 5) (v := .ref (ad 7)) (C := RM) (T := TM) (N := 24) gX gB hw0 inM hown hK hP 0 rfl rfl 7 (by decide) (hw0 _ q658) (fun _ h9 => h9) rfl dM_type_42 ?_
      refine lv_aload_n (pc := 45) gX gB dM_type_45 rfl (lv_at hl 0 rfl) ?_
      refine va_get (pc := 46) (D := (dC, dI)) (ci := 5) (v := .int (iv ln)) (C := RM) (T := TM) (N := 24) gX gB hw0 inM hown hK hP 0 rfl rfl 6 (by decide) (hw0 _ q657) (fun _ h9 => h9) rfl dM_type_46 ?_
      refine lv_iload_n (pc := 49) gX gB dM_type_49 rfl (lv_at hl 1 rfl) ?_
      refine jv_iast (pc := 50) (ws' := (pM cI cZ cG cR ad 0 tb fi se lf ct ln (uI tx ln c) kl kp fl fo ol ot pl ky nu yk yn lc fw sd lw od)) gX gB hK hP hD hS 6 0 rfl rfl (by decide) (by omega) dM_type_50 rfl (fun H locs hP hD hS => ?_)
      refine lv_aload_n (pc := 51) gX gB dM_type_51 rfl (lv_at hl 0 rfl) ?_
      refine lv_dup (pc := 52) gX gB dM_type_52 rfl ?_
      refine va_get (pc := 53) (D := (dC, dI)) (ci := 5) (v := .int (iv ln)) (C := RM) (T := TM) (N := 24) gX gB hw0 inM hown hK hP 0 rfl rfl 6 (by decide) (hw0 _ q657) (fun _ h9 => h9) rfl dM_type_53 ?_
      refine lv_iconst (pc := 56) (v := iv 1) gX gB dM_type_56 rfl ?_
      refine jv_iadd (pc := 57) (x := ln) (y := 1) gX gB dM_type_57 ?_
      refine jv_put (pc := 58) (D := (dC, dI)) (ci := 5) (v := .int (iv (ln + 1))) (ty := .int) (C := RM) (T := TM) (N := 24) (ws' := (pM cI cZ cG cR ad 0 tb fi se lf ct (ln + 1) (uI tx ln c) kl kp fl fo ol ot pl ky nu yk yn lc fw sd lw od)) gX gB hw0 inM tyM tyM_ok nmM hown hK hP hD hS 0 rfl rfl 6 (by decide) (hw0 _ q657) (fun _ h9 => h9) rfl (by decide +kernel) rfl rfl (Nat.le_of_ble_eq_true rfl) dM_type_58 rfl (fun H locs hP hD hS => ?_)
      refine lv_aload_n (pc := 61) gX gB dM_type_61 rfl (lv_at hl 0 rfl) ?_
      refine va_get (pc := 62) (D := (dC, dI)) (ci := 5) (v := .int (iv (ln + 1))) (C := RM) (T := TM) (N := 24) gX gB hw0 inM hown hK hP 0 rfl rfl 6 (by decide) (hw0 _ q657) (fun _ h9 => h9) rfl dM_type_62 ?_
      exact hret _ (ln + 1, 0, ln + 1, (uI tx ln c)) dM_type_65 ⟨rfl, by first | (dsimp only; first | exact Or.inl ⟨by omega, rfl, rfl, rfl⟩ | exact Or.inr (Or.inl ⟨by omega, by omega, by omega, rfl, rfl, rfl⟩) | exact Or.inr (Or.inr ⟨by omega, by omega, by omega, rfl, rfl, rfl, rfl⟩)) | (first | exact Or.inl ⟨by omega, rfl, rfl, rfl⟩ | exact Or.inr (Or.inl ⟨by omega, by omega, by omega, rfl, rfl, rfl⟩) | exact Or.inr (Or.inr ⟨by omega, by omega, by omega, rfl, rfl, rfl, rfl⟩))⟩ hP hD hS
    refine lv_iconst (pc := 24) (v := iv 2) gX gB dM_type_24 rfl ?_
    refine lv_goto (pc := 25) (tgt := 29) gX gB dM_type_25 (by decide) ?_
    refine jv_put (pc := 29) (D := (dC, dI)) (ci := 5) (v := .int (iv 2)) (ty := .int) (C := RM) (T := TM) (N := 24) (ws' := (pM cI cZ cG cR ad 2 tb fi se lf ct ln tx kl kp fl fo ol ot pl ky nu yk yn lc fw sd lw od)) gX gB hw0 inM tyM tyM_ok nmM hown hK hP hD hS 0 rfl rfl 0 (by decide) (hw0 _ q651) (fun _ h9 => h9) rfl (by decide +kernel) rfl rfl (Nat.le_of_ble_eq_true rfl) dM_type_29 rfl (fun H locs hP hD hS => ?_)
    refine lv_aload_n (pc := 32) gX gB dM_type_32 rfl (lv_at hl 0 rfl) ?_
    refine va_get (pc := 33) (D := (dC, dI)) (ci := 5) (v := .int (iv 2)) (C := RM) (T := TM) (N := 24) gX gB hw0 inM hown hK hP 0 rfl rfl 0 (by decide) (hw0 _ q651) (fun _ h9 => h9) rfl dM_type_33 ?_
    refine jv_if_eq (pc := 36) (tgt := 41) gX gB dM_type_36 (by decide) (by decide) (fun h6 => ?_) (fun h6 => ?_)
    · exact absurd h6 (by decide)
    refine lv_iconst (pc := 39) (v := iv 0) gX gB dM_type_39 rfl ?_
    exact hret _ (0, 2, ln, tx) dM_type_40 ⟨rfl, by first | (dsimp only; first | exact Or.inl ⟨by omega, rfl, rfl, rfl⟩ | exact Or.inr (Or.inl ⟨by omega, by omega, by omega, rfl, rfl, rfl⟩) | exact Or.inr (Or.inr ⟨by omega, by omega, by omega, rfl, rfl, rfl, rfl⟩)) | (first | exact Or.inl ⟨by omega, rfl, rfl, rfl⟩ | exact Or.inr (Or.inl ⟨by omega, by omega, by omega, rfl, rfl, rfl⟩) | exact Or.inr (Or.inr ⟨by omega, by omega, by omega, rfl, rfl, rfl, rfl⟩))⟩ hP hD hS
  refine lv_iconst (pc := 11) (v := iv 1) gX gB dM_type_11 rfl ?_
  refine lv_goto (pc := 12) (tgt := 29) gX gB dM_type_12 (by decide) ?_
  refine jv_put (pc := 29) (D := (dC, dI)) (ci := 5) (v := .int (iv 1)) (ty := .int) (C := RM) (T := TM) (N := 24) (ws' := (pM cI cZ cG cR ad 1 tb fi se lf ct ln tx kl kp fl fo ol ot pl ky nu yk yn lc fw sd lw od)) gX gB hw0 inM tyM tyM_ok nmM hown hK hP hD hS 0 rfl rfl 0 (by decide) (hw0 _ q651) (fun _ h9 => h9) rfl (by decide +kernel) rfl rfl (Nat.le_of_ble_eq_true rfl) dM_type_29 rfl (fun H locs hP hD hS => ?_)
  refine lv_aload_n (pc := 32) gX gB dM_type_32 rfl (lv_at hl 0 rfl) ?_
  refine va_get (pc := 33) (D := (dC, dI)) (ci := 5) (v := .int (iv 1)) (C := RM) (T := TM) (N := 24) gX gB hw0 inM hown hK hP 0 rfl rfl 0 (by decide) (hw0 _ q651) (fun _ h9 => h9) rfl dM_type_33 ?_
  refine jv_if_eq (pc := 36) (tgt := 41) gX gB dM_type_36 (by decide) (by decide) (fun h7 => ?_) (fun h7 => ?_)
  · exact absurd h7 (by decide)
  refine lv_iconst (pc := 39) (v := iv 0) gX gB dM_type_39 rfl ?_
  exact hret _ (0, 1, ln, tx) dM_type_40 ⟨rfl, by first | (dsimp only; first | exact Or.inl ⟨by omega, rfl, rfl, rfl⟩ | exact Or.inr (Or.inl ⟨by omega, by omega, by omega, rfl, rfl, rfl⟩) | exact Or.inr (Or.inr ⟨by omega, by omega, by omega, rfl, rfl, rfl, rfl⟩)) | (first | exact Or.inl ⟨by omega, rfl, rfl, rfl⟩ | exact Or.inr (Or.inl ⟨by omega, by omega, by omega, rfl, rfl, rfl⟩) | exact Or.inr (Or.inr ⟨by omega, by omega, by omega, rfl, rfl, rfl, rfl⟩))⟩ hP hD hS
set_option maxRecDepth 100000 in
set_option maxHeartbeats 1000000 in
theorem c_M_at (l : Launch) (dC : Nat → ClassId) (dI : Nat → Nat → Nat) (cI : ClassId) (cZ : ClassId) (cG : ClassId) (cR : ClassId) (ad : Nat → Nat) (th : Int) (tb : Int → Int) (fi : Int → Int) (se : Int → Int) (lf : Int → Int) (ct : Int → Int) (ln : Int) (tx : Int → Int) (kl : Int → Int) (kp : Int → Int) (fl : Int) (fo : Int → Int) (ol : Int) (ot : Int → Int) (pl : Int → Int) (ky : Int) (nu : Int → Int) (yk : Int) (yn : Int → Int) (lc : Int → Int) (fw : Int → Int) (sd : Int → Int) (lw : Int → Int) (od : Int → Int) (sz : Nat) (i : Int) (hi : -2147483648 ≤ i ∧ i < 2147483648) (hl9 : 0 ≤ ln ∧ ln ≤ 40) : Met l yM_at wsM_at ({ frames := 1, cells := 0, slots := 0, locals := 22 }) (va_Pc [.ref (ad 0), .int (iv i)] (jPre (dC, dI) (jT cI cZ cG cR) (pM cI cZ cG cR ad th tb fi se lf ct ln tx kl kp fl fo ol ot pl ky nu yk yn lc fw sd lw od) sz)) (va_Qi (fun (r0 : Int32) (u : Int × Int) => r0 = iv u.1 ∧ (((i < 0 ∨ ln ≤ i) ∧ u.2 = 1) ∨ (0 ≤ i ∧ i < ln ∧ u.2 = 0 ∧ u.1 = tx i))) (fun u => jEnd (dC, dI) (jT cI cZ cG cR) (va_A (pM cI cZ cG cR ad th tb fi se lf ct ln tx kl kp fl fo ol ot pl ky nu yk yn lc fw sd lw od) sz) (pM cI cZ cG cR ad u.2 tb fi se lf ct ln tx kl kp fl fo ol ot pl ky nu yk yn lc fw sd lw od)) (va_A (pM cI cZ cG cR ad th tb fi se lf ct ln tx kl kp fl fo ol ot pl ky nu yk yn lc fw sd lw od) sz)) 0 0 (va_A (pM cI cZ cG cR ad th tb fi se lf ct ln tx kl kp fl fo ol ot pl ky nu yk yn lc fw sd lw od) sz) := by
  refine jv_mi (cc := cM_at) (maxL := 2) (by decide) rfl (Nat.le_of_ble_eq_true rfl) ?_
  intro p0 e0 s0 m0 a0 b0 t0 c0 R0 Q0 A0 ls gX gB hts hown hml hRf hRl hA hK hret hl hP hD hS
  have hown : s0.vm.findClass "TextPipelineModel" = some m0.cls := hown
  have hw0 : ∀ w ∈ WS0, w.before a0 s0 = true := fun w h => hts w (List.mem_cons_of_mem _ h)
  have hl : lv_has ls 2 [(0, .ref (ad 0)), (1, .int (iv i))] := hl
  have hRf : 1 ≤ R0.frames := hRf
  have hRl : 22 ≤ R0.locals := hRl
  refine lv_aload_n (pc := 0) gX gB dM_at_0 rfl (lv_at hl 0 rfl) ?_
  refine lv_aload_n (pc := 1) gX gB dM_at_1 rfl (lv_at hl 0 rfl) ?_
  refine lv_iload_n (pc := 2) gX gB dM_at_2 rfl (lv_at hl 1 rfl) ?_
  refine lv_aload_n (pc := 3) gX gB dM_at_3 rfl (lv_at hl 0 rfl) ?_
  refine va_get (pc := 4) (D := (dC, dI)) (ci := 5) (v := .int (iv ln)) (C := RM) (T := TM) (N := 24) gX gB hw0 inM hown hK hP 0 rfl rfl 6 (by decide) (hw0 _ q657) (fun _ h9 => h9) rfl dM_at_4 ?_
  refine jv_ri (pc := 7) (wr := []) (wn := fun u : Int => (pM cI cZ cG cR ad th tb fi se lf ct ln tx kl kp fl fo ol ot pl ky nu yk yn lc fw sd lw od)) (va_runV (rest := [.ref (ad 0)]) ⟨gX, gB, hml, hown, hw0⟩ (c_M_noPlace l dC dI cI cZ cG cR ad th tb fi se lf ct ln tx kl kp fl fo ol ot pl ky nu yk yn lc fw sd lw od _ i ln (by omega) (by omega)) (jcV hw0 kM_noPlace q752 rfl rfl ⟨Nat.le_trans (Nat.le_of_ble_eq_true rfl) hRf, Nat.le_trans (Nat.le_of_ble_eq_true rfl) hRl⟩) (jv_preV (ci := 5) (q0 := 0) hK hP hD [0, 1, 2, 3, 4, 5, 6, 7, 8, 9, 10, 11, 12, 13, 14, 15, 16, 17, 18] rfl (by decide) rfl rfl) rfl rfl hl.1 rfl (lv_room (Nat.le_of_ble_eq_true rfl)) dM_at_7 ⟨Nat.zero_le _, Nat.zero_le _⟩) hP hD hS hA [0, 1, 2, 3, 4, 5, 6, 7, 8, 9, 10, 11, 12, 13, 14, 15, 16, 17, 18] [] [0, 1, 2, 3, 4, 5, 6, 7, 8, 9, 10, 11, 12, 13, 14, 15, 16, 17, 18] rfl rfl (by decide) (by decide) (by decide) (fun _ => rfl) (fun r0 u H locs hw7 hP hD hS => ?_)
  obtain ⟨r_7, hu⟩ : ∃ z, z = u := ⟨_, rfl⟩; subst hu
  obtain ⟨rfl, hw7⟩ := hw7
  refine jv_if_eq (pc := 10) (tgt := 17) gX gB dM_at_10 (by decide) (by omega) (fun h1 => ?_) (fun h1 => ?_)
  · skip
    refine lv_iconst (pc := 17) (v := iv 0) gX gB dM_at_17 rfl ?_
    refine jv_put (pc := 18) (D := (dC, dI)) (ci := 5) (v := .int (iv 0)) (ty := .int) (C := RM) (T := TM) (N := 24) (ws' := (pM cI cZ cG cR ad 0 tb fi se lf ct ln tx kl kp fl fo ol ot pl ky nu yk yn lc fw sd lw od)) gX gB hw0 inM tyM tyM_ok nmM hown hK hP hD hS 0 rfl rfl 0 (by decide) (hw0 _ q651) (fun _ h9 => h9) rfl (by decide +kernel) rfl rfl (Nat.le_of_ble_eq_true rfl) dM_at_18 rfl (fun H locs hP hD hS => ?_)
    refine lv_aload_n (pc := 21) gX gB dM_at_21 rfl (lv_at hl 0 rfl) ?_
    refine va_get (pc := 22) (D := (dC, dI)) (ci := 5) (v := .int (iv 0)) (C := RM) (T := TM) (N := 24) gX gB hw0 inM hown hK hP 0 rfl rfl 0 (by decide) (hw0 _ q651) (fun _ h9 => h9) rfl dM_at_22 ?_
    refine jv_if_ne (pc := 25) (tgt := 37) gX gB dM_at_25 (by decide) (by decide) (fun h2 => ?_) (fun h2 => ?_)
    · exact absurd h2 (by decide)
    refine lv_aload_n (pc := 28) gX gB dM_at_28 rfl (lv_at hl 0 rfl) ?_
    refine va_get (pc := 29) (D := (dC, dI)) (ci := 5) (v := .ref (ad 7)) (C := RM) (T := TM) (N := 24) gX gB hw0 inM hown hK hP 0 rfl rfl 7 (by decide) (hw0 _ q658) (fun _ h9 => h9) rfl dM_at_29 ?_
    refine lv_iload_n (pc := 32) gX gB dM_at_32 rfl (lv_at hl 1 rfl) ?_
    refine jv_iald (pc := 33) gX gB hK hP 6 0 rfl rfl (by decide) (by omega) dM_at_33 ?_
    refine lv_goto (pc := 34) (tgt := 38) gX gB dM_at_34 (by decide) ?_
    exact hret _ (tx i, 0) dM_at_38 ⟨rfl, by first | (dsimp only; first | exact Or.inl ⟨by omega, rfl⟩ | exact Or.inr ⟨by omega, by omega, rfl, rfl⟩) | (first | exact Or.inl ⟨by omega, rfl⟩ | exact Or.inr ⟨by omega, by omega, rfl, rfl⟩)⟩ hP hD hS
  refine lv_iconst (pc := 13) (v := iv 1) gX gB dM_at_13 rfl ?_
  refine lv_goto (pc := 14) (tgt := 18) gX gB dM_at_14 (by decide) ?_
  refine jv_put (pc := 18) (D := (dC, dI)) (ci := 5) (v := .int (iv 1)) (ty := .int) (C := RM) (T := TM) (N := 24) (ws' := (pM cI cZ cG cR ad 1 tb fi se lf ct ln tx kl kp fl fo ol ot pl ky nu yk yn lc fw sd lw od)) gX gB hw0 inM tyM tyM_ok nmM hown hK hP hD hS 0 rfl rfl 0 (by decide) (hw0 _ q651) (fun _ h9 => h9) rfl (by decide +kernel) rfl rfl (Nat.le_of_ble_eq_true rfl) dM_at_18 rfl (fun H locs hP hD hS => ?_)
  refine lv_aload_n (pc := 21) gX gB dM_at_21 rfl (lv_at hl 0 rfl) ?_
  refine va_get (pc := 22) (D := (dC, dI)) (ci := 5) (v := .int (iv 1)) (C := RM) (T := TM) (N := 24) gX gB hw0 inM hown hK hP 0 rfl rfl 0 (by decide) (hw0 _ q651) (fun _ h9 => h9) rfl dM_at_22 ?_
  refine jv_if_ne (pc := 25) (tgt := 37) gX gB dM_at_25 (by decide) (by decide) (fun h3 => ?_) (fun h3 => ?_)
  rotate_left
  · exact absurd h3 (by decide)
  refine lv_iconst (pc := 37) (v := iv 0) gX gB dM_at_37 rfl ?_
  exact hret _ (0, 1) dM_at_38 ⟨rfl, by first | (dsimp only; first | exact Or.inl ⟨by omega, rfl⟩ | exact Or.inr ⟨by omega, by omega, rfl, rfl⟩) | (first | exact Or.inl ⟨by omega, rfl⟩ | exact Or.inr ⟨by omega, by omega, rfl, rfl⟩)⟩ hP hD hS
