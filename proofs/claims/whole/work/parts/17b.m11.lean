set_option maxRecDepth 100000 in
set_option maxHeartbeats 4000000 in
theorem c_M_same (l : Launch) (dC : Nat → ClassId) (dI : Nat → Nat → Nat) (cI : ClassId) (cZ : ClassId) (cG : ClassId) (cR : ClassId) (ad : Nat → Nat) (th : Int) (tb : Int → Int) (fi : Int → Int) (se : Int → Int) (lf : Int → Int) (ct : Int → Int) (ln : Int) (tx : Int → Int) (kl : Int → Int) (kp : Int → Int) (fl : Int) (fo : Int → Int) (ol : Int) (ot : Int → Int) (pl : Int → Int) (ky : Int) (nu : Int → Int) (yk : Int) (yn : Int → Int) (lc : Int → Int) (fw : Int → Int) (sd : Int → Int) (lw : Int → Int) (od : Int → Int) (sz : Nat) (k : Int) (hT : TBK tb) (hv : vpt fi se) (hs : SHT fi se) (hk9 : -2147483648 ≤ k ∧ k < 2147483648) (hkp : ∀ k, 0 ≤ k → k < 4 → 0 ≤ kl k ∧ kl k ≤ 40 ∧ ∀ j, 0 ≤ j → j < kl k → 0 ≤ kp (40 * k + j) ∧ kp (40 * k + j) < 75) (hl9 : 0 ≤ ln ∧ ln ≤ 40) (htx : ∀ j, 0 ≤ j → j < ln → 0 ≤ tx j ∧ tx j < 75) : Met l yM_same wsM_same ({ frames := 4, cells := 0, slots := 0, locals := 89 }) (va_Pc [.ref (ad 0), .int (iv k)] (jPre (dC, dI) (jT cI cZ cG cR) (pM cI cZ cG cR ad th tb fi se lf ct ln tx kl kp fl fo ol ot pl ky nu yk yn lc fw sd lw od) sz)) (va_Qi (fun (r0 : Int32) (u : Int × Int × Int × (Int → Int) × (Int → Int) × Int × (Int → Int)) => r0 = iv u.1 ∧ (((k < 0 ∨ 3 < k) ∧ u.2.1 = 1) ∨ (0 ≤ k ∧ k ≤ 3 ∧ u.2.1 = 0 ∧ (u.1 = 0 ∨ u.1 = 1) ∧ (u.1 = 1 ↔ FM (rkM tb) fi se tx ln = FM (rkM tb) fi se (fun j => kp (40 * k + j)) (kl k))))) (fun u => jEnd (dC, dI) (jT cI cZ cG cR) (va_A (pM cI cZ cG cR ad th tb fi se lf ct ln tx kl kp fl fo ol ot pl ky nu yk yn lc fw sd lw od) sz) (pM cI cZ cG cR ad u.2.1 tb fi se lf ct ln tx kl kp u.2.2.1 u.2.2.2.1 u.2.2.2.2.2.1 u.2.2.2.2.2.2 u.2.2.2.2.1 ky nu yk yn lc fw sd lw od)) (va_A (pM cI cZ cG cR ad th tb fi se lf ct ln tx kl kp fl fo ol ot pl ky nu yk yn lc fw sd lw od) sz)) 0 0 (va_A (pM cI cZ cG cR ad th tb fi se lf ct ln tx kl kp fl fo ol ot pl ky nu yk yn lc fw sd lw od) sz) := by
  refine jv_mz (cc := cM_same) (maxL := 4) (by decide) rfl (Nat.le_of_ble_eq_true rfl) ?_
  intro p0 e0 s0 m0 a0 b0 t0 c0 R0 Q0 A0 ls gX gB hts hown hml hRf hRl hA hK hret hl hP hD hS
  have hown : s0.vm.findClass "TextPipelineModel" = some m0.cls := hown
  have hw0 : ∀ w ∈ WS0, w.before a0 s0 = true := fun w h => hts w (List.mem_cons_of_mem _ h)
  have hl : lv_has ls 4 [(0, .ref (ad 0)), (1, .int (iv k))] := hl
  have hRf : 4 ≤ R0.frames := hRf
  have hRl : 89 ≤ R0.locals := hRl
  refine lv_aload_n (pc := 0) gX gB dM_same_0 rfl (lv_at hl 0 rfl) ?_
  refine lv_aload_n (pc := 1) gX gB dM_same_1 rfl (lv_at hl 0 rfl) ?_
  refine lv_iload_n (pc := 2) gX gB dM_same_2 rfl (lv_at hl 1 rfl) ?_
  refine jv_ri (pc := 3) (wr := []) (wn := fun u : Int => (pM cI cZ cG cR ad th tb fi se lf ct ln tx kl kp fl fo ol ot pl ky nu yk yn lc fw sd lw od)) (va_runV (rest := [.ref (ad 0)]) ⟨gX, gB, hml, hown, hw0⟩ (c_M_noSlot l dC dI cI cZ cG cR ad th tb fi se lf ct ln tx kl kp fl fo ol ot pl ky nu yk yn lc fw sd lw od _ k (by omega)) (jcV hw0 kM_noSlot q928 rfl rfl ⟨Nat.le_trans (Nat.le_of_ble_eq_true rfl) hRf, Nat.le_trans (Nat.le_of_ble_eq_true rfl) hRl⟩) (jv_preV (ci := 5) (q0 := 0) hK hP hD [0, 1, 2, 3, 4, 5, 6, 7, 8, 9, 10, 11, 12, 13, 14, 15, 16, 17, 18] rfl (by decide) rfl rfl) rfl rfl hl.1 rfl (lv_room (Nat.le_of_ble_eq_true rfl)) dM_same_3 ⟨Nat.zero_le _, Nat.zero_le _⟩) hP hD hS hA [0, 1, 2, 3, 4, 5, 6, 7, 8, 9, 10, 11, 12, 13, 14, 15, 16, 17, 18] [] [0, 1, 2, 3, 4, 5, 6, 7, 8, 9, 10, 11, 12, 13, 14, 15, 16, 17, 18] rfl rfl (by decide) (by decide) (by decide) (fun _ => rfl) (fun r0 u H locs hw3 hP hD hS => ?_)
  obtain ⟨r_3, hu⟩ : ∃ z, z = u := ⟨_, rfl⟩; subst hu
  obtain ⟨rfl, hw3⟩ := hw3
  refine jv_if_eq (pc := 6) (tgt := 13) gX gB dM_same_6 (by decide) (by omega) (fun h1 => ?_) (fun h1 => ?_)
  · skip
    refine lv_iconst (pc := 13) (v := iv 0) gX gB dM_same_13 rfl ?_
    refine jv_put (pc := 14) (D := (dC, dI)) (ci := 5) (v := .int (iv 0)) (ty := .int) (C := RM) (T := TM) (N := 24) (ws' := (pM cI cZ cG cR ad 0 tb fi se lf ct ln tx kl kp fl fo ol ot pl ky nu yk yn lc fw sd lw od)) gX gB hw0 inM tyM tyM_ok nmM hown hK hP hD hS 0 rfl rfl 0 (by decide) (hw0 _ q651) (fun _ h9 => h9) rfl (by decide +kernel) rfl rfl (Nat.le_of_ble_eq_true rfl) dM_same_14 rfl (fun H locs hP hD hS => ?_)
    refine lv_aload_n (pc := 17) gX gB dM_same_17 rfl (lv_at hl 0 rfl) ?_
    refine va_get (pc := 18) (D := (dC, dI)) (ci := 5) (v := .int (iv 0)) (C := RM) (T := TM) (N := 24) gX gB hw0 inM hown hK hP 0 rfl rfl 0 (by decide) (hw0 _ q651) (fun _ h9 => h9) rfl dM_same_18 ?_
    refine jv_if_eq (pc := 21) (tgt := 26) gX gB dM_same_21 (by decide) (by decide) (fun h2 => ?_) (fun h2 => ?_)
    rotate_left
    · exact absurd h2 (by decide)
    obtain ⟨hka, hkb, hkc⟩ := hkp k (by omega) (by omega)
    refine lv_aload_n (pc := 26) gX gB dM_same_26 rfl (lv_at hl 0 rfl) ?_
    refine lv_iload_n (pc := 27) gX gB dM_same_27 rfl (lv_at hl 1 rfl) ?_
    refine jv_rv (pc := 28) (wr := []) (wn := fun u : Int × (Int → Int) × (Int → Int) => (pM cI cZ cG cR ad 0 tb fi se lf ct ln tx kl kp u.1 u.2.1 ol ot u.2.2 ky nu yk yn lc fw sd lw od)) (va_runV (rest := []) ⟨gX, gB, hml, hown, hw0⟩ (c_M_partKept l dC dI cI cZ cG cR ad 0 tb fi se lf ct ln tx kl kp fl fo ol ot pl ky nu yk yn lc fw sd lw od _ k (by omega) (by omega) (by omega) (by omega) (by exact ⟨hka, hkb⟩) (by exact hkc)) (jcV hw0 kM_partKept q936 rfl rfl ⟨Nat.le_trans (Nat.le_of_ble_eq_true rfl) hRf, Nat.le_trans (Nat.le_of_ble_eq_true rfl) hRl⟩) (jv_preV (ci := 5) (q0 := 0) hK hP hD [0, 1, 2, 3, 4, 5, 6, 7, 8, 9, 10, 11, 12, 13, 14, 15, 16, 17, 18] rfl (by decide) rfl rfl) rfl rfl hl.1 rfl (lv_room (Nat.le_of_ble_eq_true rfl)) dM_same_28 ⟨Nat.zero_le _, Nat.zero_le _⟩) hP hD hS hA [0, 1, 2, 3, 4, 5, 6, 7, 8, 9, 10, 11, 12, 13, 14, 15, 16, 17, 18] [] [0, 1, 2, 3, 4, 5, 6, 7, 8, 9, 10, 11, 12, 13, 14, 15, 16, 17, 18] rfl rfl (by decide) (by decide) (by decide) (fun _ => rfl) (fun u H locs hw28 hP hD hS => ?_)
    obtain ⟨fl_28, fo_28, pl_28⟩ := u
    dsimp only at hw28 hP hD
    have hr28 : ∀ j, 0 ≤ j → j < fl_28 → 0 ≤ fo_28 j ∧ fo_28 j < 75 := fun j a b => by have h9 := rsg_in (g := fo_28) (n := fl_28.toNat) (j := j) a (by omega); rw [hw28.2.2] at h9; have := FM_mem hv hkc _ h9; omega
    refine lv_aload_n (pc := 31) gX gB dM_same_31 rfl (lv_at hl 0 rfl) ?_
    refine lv_aload_n (pc := 32) gX gB dM_same_32 rfl (lv_at hl 0 rfl) ?_
    refine va_get (pc := 33) (D := (dC, dI)) (ci := 5) (v := .int (iv fl_28)) (C := RM) (T := TM) (N := 24) gX gB hw0 inM hown hK hP 0 rfl rfl 10 (by decide) (hw0 _ q661) (fun _ h9 => h9) rfl dM_same_33 ?_
    refine jv_put (pc := 36) (D := (dC, dI)) (ci := 5) (v := .int (iv fl_28)) (ty := .int) (C := RM) (T := TM) (N := 24) (ws' := (pM cI cZ cG cR ad 0 tb fi se lf ct ln tx kl kp fl_28 fo_28 fl_28 ot pl_28 ky nu yk yn lc fw sd lw od)) gX gB hw0 inM tyM tyM_ok nmM hown hK hP hD hS 0 rfl rfl 12 (by decide) (hw0 _ q663) (fun _ h9 => h9) rfl (by decide +kernel) rfl rfl (Nat.le_of_ble_eq_true rfl) dM_same_36 rfl (fun H locs hP hD hS => ?_)
    refine lv_iconst (pc := 39) (v := iv 0) gX gB dM_same_39 rfl ?_
    refine lv_istore_n (pc := 40) (lv' := [(2, .int (iv 0)), (0, .ref (ad 0)), (1, .int (iv k))]) gX gB dM_same_40 rfl hl (by decide) rfl (fun ls hl => ?_)
    have cut41 : ∀ (n0 : Nat) (i : Int) (ot1 : Int → Int) (ls : Array Slot) (H : Heap) (locs : List Loc), (0 ≤ i ∧ i ≤ fl_28) → (∀ j, 0 ≤ j → j < i → ot1 j = fo_28 j) → ((fl_28 - i : Int).toNat < n0) → lv_has ls 4 [(0, .ref (ad 0)), (1, .int (iv k)), (2, .int (iv i))] → va_P (dC, dI) vwCl (pM cI cZ cG cR ad 0 tb fi se lf ct ln tx kl kp fl_28 fo_28 fl_28 ot1 pl_28 ky nu yk yn lc fw sd lw od) H → va_D A0 (pM cI cZ cG cR ad 0 tb fi se lf ct ln tx kl kp fl_28 fo_28 fl_28 ot1 pl_28 ky nu yk yn lc fw sd lw od) → va_S A0 s0.heap H locs → W p0 l e0 R0 s0 m0 a0 b0 t0 c0 H locs 0 0 Q0 (F0 m0 41 ls []) := by
      intro n0
      induction n0 with
      | zero => intro i ot1 ls H locs hi hc hm hl hP hD hS; exact absurd hm (Nat.not_lt_zero _)
      | succ n0 ih41 =>
        intro i ot1 ls H locs hi hc hm41 hl hP hD hS
        refine lv_iload_n (pc := 41) gX gB dM_same_41 rfl (lv_at hl 2 rfl) ?_
        refine lv_aload_n (pc := 42) gX gB dM_same_42 rfl (lv_at hl 0 rfl) ?_
        refine va_get (pc := 43) (D := (dC, dI)) (ci := 5) (v := .int (iv fl_28)) (C := RM) (T := TM) (N := 24) gX gB hw0 inM hown hK hP 0 rfl rfl 10 (by decide) (hw0 _ q661) (fun _ h9 => h9) rfl dM_same_43 ?_
        refine jv_icmp_ge (pc := 46) (tgt := 67) gX gB dM_same_46 (by decide) (by omega) (by omega) (fun h3 => ?_) (fun h3 => ?_)
        · skip
          have hy1 : rsg ot1 fl_28.toNat = FM (rkM tb) fi se (fun j => kp (40 * k + j)) (kl k) := by rw [← hw28.2.2]; exact rsg_congr _ (fun j a b => hc j a (by omega))
          have hcr : ∀ j, 0 ≤ j → j < fl_28 → 0 ≤ ot1 j ∧ ot1 j < 75 := fun j a b => by rw [hc j a (by omega)]; exact hr28 j a b
          refine lv_aload_n (pc := 67) gX gB dM_same_67 rfl (lv_at hl 0 rfl) ?_
          refine jv_rv (pc := 68) (wr := []) (wn := fun u : Int × (Int → Int) × (Int → Int) => (pM cI cZ cG cR ad 0 tb fi se lf ct ln tx kl kp u.1 u.2.1 fl_28 ot1 u.2.2 ky nu yk yn lc fw sd lw od)) (va_runV (rest := []) ⟨gX, gB, hml, hown, hw0⟩ (c_M_partText l dC dI cI cZ cG cR ad 0 tb fi se lf ct ln tx kl kp fl_28 fo_28 fl_28 ot1 pl_28 ky nu yk yn lc fw sd lw od _  (by omega) (by omega) (by omega) (by omega) (by omega)) (jcV hw0 kM_partText q760 rfl rfl ⟨Nat.le_trans (Nat.le_of_ble_eq_true rfl) hRf, Nat.le_trans (Nat.le_of_ble_eq_true rfl) hRl⟩) (jv_preV (ci := 5) (q0 := 0) hK hP hD [0, 1, 2, 3, 4, 5, 6, 7, 8, 9, 10, 11, 12, 13, 14, 15, 16, 17, 18] rfl (by decide) rfl rfl) rfl rfl hl.1 rfl (lv_room (Nat.le_of_ble_eq_true rfl)) dM_same_68 ⟨Nat.zero_le _, Nat.zero_le _⟩) hP hD hS hA [0, 1, 2, 3, 4, 5, 6, 7, 8, 9, 10, 11, 12, 13, 14, 15, 16, 17, 18] [] [0, 1, 2, 3, 4, 5, 6, 7, 8, 9, 10, 11, 12, 13, 14, 15, 16, 17, 18] rfl rfl (by decide) (by decide) (by decide) (fun _ => rfl) (fun u H locs hw68 hP hD hS => ?_)
          obtain ⟨fl_68, fo_68, pl_68⟩ := u
          dsimp only at hw68 hP hD
          have hr68 : ∀ j, 0 ≤ j → j < fl_68 → 0 ≤ fo_68 j ∧ fo_68 j < 75 := fun j a b => by have h9 := rsg_in (g := fo_68) (n := fl_68.toNat) (j := j) a (by omega); rw [hw68.2.2] at h9; have := FM_mem hv htx _ h9; omega
          have hlen : FM (rkM tb) fi se tx ln = FM (rkM tb) fi se (fun j => kp (40 * k + j)) (kl k) → fl_68 = fl_28 := fun z => by have q1 := hw68.2.2; rw [z, ← hy1] at q1; have q2 := congrArg List.length q1; rw [rsg_len, rsg_len] at q2; omega
          have cut87 : ∀ (is : Int) (ls : Array Slot) (H : Heap) (locs : List Loc), (is = 0 ∨ is = 1) → (is = 1 ↔ fl_68 = fl_28) → lv_has ls 4 [(0, .ref (ad 0)), (1, .int (iv k))] → va_P (dC, dI) vwCl (pM cI cZ cG cR ad 0 tb fi se lf ct ln tx kl kp fl_68 fo_68 fl_28 ot1 pl_68 ky nu yk yn lc fw sd lw od) H → va_D A0 (pM cI cZ cG cR ad 0 tb fi se lf ct ln tx kl kp fl_68 fo_68 fl_28 ot1 pl_68 ky nu yk yn lc fw sd lw od) → va_S A0 s0.heap H locs → W p0 l e0 R0 s0 m0 a0 b0 t0 c0 H locs 0 0 Q0 (F0 m0 87 ls [.int (iv is)]) := by
            intro is ls H locs h01 hq0 hl hP hD hS
            refine lv_istore_n (pc := 87) (lv' := [(2, .int (iv is)), (0, .ref (ad 0)), (1, .int (iv k))]) gX gB dM_same_87 rfl hl (by decide) rfl (fun ls hl => ?_)
            have rgi : -2147483648 ≤ is ∧ is < 2147483648 := by rcases h01 with z | z <;> (rw [z]; decide)
            refine lv_iconst (pc := 88) (v := iv 0) gX gB dM_same_88 rfl ?_
            refine lv_istore_n (pc := 89) (lv' := [(3, .int (iv 0)), (2, .int (iv is)), (0, .ref (ad 0)), (1, .int (iv k))]) gX gB dM_same_89 rfl hl (by decide) rfl (fun ls hl => ?_)
            have cut90 : ∀ (n0 : Nat) (is : Int) (i : Int) (ls : Array Slot) (H : Heap) (locs : List Loc), (0 ≤ i ∧ i ≤ fl_68) → (is = 0 ∨ is = 1) → (is = 1 ↔ (fl_68 = fl_28 ∧ ∀ j, 0 ≤ j → j < i → fo_68 j = ot1 j)) → ((fl_68 - i : Int).toNat < n0) → lv_has ls 4 [(0, .ref (ad 0)), (1, .int (iv k)), (2, .int (iv is)), (3, .int (iv i))] → va_P (dC, dI) vwCl (pM cI cZ cG cR ad 0 tb fi se lf ct ln tx kl kp fl_68 fo_68 fl_28 ot1 pl_68 ky nu yk yn lc fw sd lw od) H → va_D A0 (pM cI cZ cG cR ad 0 tb fi se lf ct ln tx kl kp fl_68 fo_68 fl_28 ot1 pl_68 ky nu yk yn lc fw sd lw od) → va_S A0 s0.heap H locs → W p0 l e0 R0 s0 m0 a0 b0 t0 c0 H locs 0 0 Q0 (F0 m0 90 ls []) := by
              intro n0
              induction n0 with
              | zero => intro is i ls H locs hi h01 hq hm hl hP hD hS; exact absurd hm (Nat.not_lt_zero _)
              | succ n0 ih90 =>
                intro is i ls H locs hi h01 hq hm90 hl hP hD hS
                have rgi : -2147483648 ≤ is ∧ is < 2147483648 := by rcases h01 with z | z <;> (rw [z]; decide)
                refine lv_iload_n (pc := 90) gX gB dM_same_90 rfl (lv_at hl 3 rfl) ?_
                refine lv_aload_n (pc := 91) gX gB dM_same_91 rfl (lv_at hl 0 rfl) ?_
                refine va_get (pc := 92) (D := (dC, dI)) (ci := 5) (v := .int (iv fl_68)) (C := RM) (T := TM) (N := 24) gX gB hw0 inM hown hK hP 0 rfl rfl 10 (by decide) (hw0 _ q661) (fun _ h9 => h9) rfl dM_same_92 ?_
                refine jv_icmp_ge (pc := 95) (tgt := 129) gX gB dM_same_95 (by decide) (by omega) (by omega) (fun h4 => ?_) (fun h4 => ?_)
                · skip
                  refine lv_iload_n (pc := 129) gX gB dM_same_129 rfl (lv_at hl 2 rfl) ?_
                  exact hret _ (is, 0, fl_68, fo_68, pl_68, fl_28, ot1) dM_same_130 (by rcases h01 with z | z; (rw [z]; exact Or.inl rfl); (rw [z]; exact Or.inr rfl)) ⟨rfl, by first | (dsimp only; refine Or.inr ⟨by omega, by omega, rfl, h01, ?_⟩; rw [hq]; refine ⟨fun z => ?_, fun z => ⟨hlen z, fun j a b => ?_⟩⟩; (first | (have hii : i = fl_68 := (by omega); rw [← hw68.2.2, ← hy1, ← z.1]; exact rsg_congr _ (fun j a b => z.2 j a (by omega))) | (have := hq.mpr z; omega)); (have q1 := hw68.2.2; rw [z, ← hy1, ← hlen z] at q1; exact rsg_inj _ q1 j a (by omega))) | (refine Or.inr ⟨by omega, by omega, rfl, h01, ?_⟩; rw [hq]; refine ⟨fun z => ?_, fun z => ⟨hlen z, fun j a b => ?_⟩⟩; (first | (have hii : i = fl_68 := (by omega); rw [← hw68.2.2, ← hy1, ← z.1]; exact rsg_congr _ (fun j a b => z.2 j a (by omega))) | (have := hq.mpr z; omega)); (have q1 := hw68.2.2; rw [z, ← hy1, ← hlen z] at q1; exact rsg_inj _ q1 j a (by omega)))⟩ hP hD hS
                refine lv_iload_n (pc := 98) gX gB dM_same_98 rfl (lv_at hl 2 rfl) ?_
                refine jv_if_eq (pc := 99) (tgt := 129) gX gB dM_same_99 (by decide) rgi (fun h5 => ?_) (fun h5 => ?_)
                · skip
                  refine lv_iload_n (pc := 129) gX gB dM_same_129 rfl (lv_at hl 2 rfl) ?_
                  exact hret _ (is, 0, fl_68, fo_68, pl_68, fl_28, ot1) dM_same_130 (by rcases h01 with z | z; (rw [z]; exact Or.inl rfl); (rw [z]; exact Or.inr rfl)) ⟨rfl, by first | (dsimp only; refine Or.inr ⟨by omega, by omega, rfl, h01, ?_⟩; rw [hq]; refine ⟨fun z => ?_, fun z => ⟨hlen z, fun j a b => ?_⟩⟩; (first | (have hii : i = fl_68 := (by omega); rw [← hw68.2.2, ← hy1, ← z.1]; exact rsg_congr _ (fun j a b => z.2 j a (by omega))) | (have := hq.mpr z; omega)); (have q1 := hw68.2.2; rw [z, ← hy1, ← hlen z] at q1; exact rsg_inj _ q1 j a (by omega))) | (refine Or.inr ⟨by omega, by omega, rfl, h01, ?_⟩; rw [hq]; refine ⟨fun z => ?_, fun z => ⟨hlen z, fun j a b => ?_⟩⟩; (first | (have hii : i = fl_68 := (by omega); rw [← hw68.2.2, ← hy1, ← z.1]; exact rsg_congr _ (fun j a b => z.2 j a (by omega))) | (have := hq.mpr z; omega)); (have q1 := hw68.2.2; rw [z, ← hy1, ← hlen z] at q1; exact rsg_inj _ q1 j a (by omega)))⟩ hP hD hS
                have his : is = 1 := h01.resolve_left (by assumption)
                have hfe := (hq.mp his).1
                have ra := hr68 i (by omega) (by omega)
                have rb := hcr i (by omega) (by omega)
                have cut122 : ∀ (s2 : Int) (ls : Array Slot) (H : Heap) (locs : List Loc), (s2 = 0 ∨ s2 = 1) → (s2 = 1 ↔ fo_68 i = ot1 i) → lv_has ls 4 [(0, .ref (ad 0)), (1, .int (iv k)), (3, .int (iv i))] → va_P (dC, dI) vwCl (pM cI cZ cG cR ad 0 tb fi se lf ct ln tx kl kp fl_68 fo_68 fl_28 ot1 pl_68 ky nu yk yn lc fw sd lw od) H → va_D A0 (pM cI cZ cG cR ad 0 tb fi se lf ct ln tx kl kp fl_68 fo_68 fl_28 ot1 pl_68 ky nu yk yn lc fw sd lw od) → va_S A0 s0.heap H locs → W p0 l e0 R0 s0 m0 a0 b0 t0 c0 H locs 0 0 Q0 (F0 m0 122 ls [.int (iv s2)]) := by
                  intro s2 ls H locs h02 hq2 hl hP hD hS
                  refine lv_istore_n (pc := 122) (lv' := [(2, .int (iv s2)), (0, .ref (ad 0)), (1, .int (iv k)), (3, .int (iv i))]) gX gB dM_same_122 rfl hl (by decide) rfl (fun ls hl => ?_)
                  refine jv_iinc (pc := 123) (k := 3) (x := i) (n := 1) (lv' := [(3, .int (iv (i + 1))), (2, .int (iv s2)), (0, .ref (ad 0)), (1, .int (iv k))]) gX gB dM_same_123 hl rfl (by decide) rfl (fun ls hl => ?_)
                  refine lv_goto (pc := 126) (tgt := 90) gX gB dM_same_126 (by decide) ?_
                  exact ih90 s2 (i + 1) _ _ _ (by omega) (by exact h02) (by rw [hq2]; exact ⟨fun z => ⟨hfe, fun j a b => by by_cases e : j = i; (rw [e]; exact z); exact (hq.mp his).2 j a (by omega)⟩, fun z => z.2 i (by omega) (by omega)⟩) (by omega) (lv_sub hl [2, 3, 1, 0] rfl) hP hD hS
                refine lv_aload_n (pc := 102) gX gB dM_same_102 rfl (lv_at hl 0 rfl) ?_
                refine va_get (pc := 103) (D := (dC, dI)) (ci := 5) (v := .ref (ad 11)) (C := RM) (T := TM) (N := 24) gX gB hw0 inM hown hK hP 0 rfl rfl 11 (by decide) (hw0 _ q662) (fun _ h9 => h9) rfl dM_same_103 ?_
                refine lv_iload_n (pc := 106) gX gB dM_same_106 rfl (lv_at hl 3 rfl) ?_
                refine jv_iald (pc := 107) gX gB hK hP 9 0 rfl rfl (by decide) (by omega) dM_same_107 ?_
                refine lv_aload_n (pc := 108) gX gB dM_same_108 rfl (lv_at hl 0 rfl) ?_
                refine va_get (pc := 109) (D := (dC, dI)) (ci := 5) (v := .ref (ad 13)) (C := RM) (T := TM) (N := 24) gX gB hw0 inM hown hK hP 0 rfl rfl 13 (by decide) (hw0 _ q664) (fun _ h9 => h9) rfl dM_same_109 ?_
                refine lv_iload_n (pc := 112) gX gB dM_same_112 rfl (lv_at hl 3 rfl) ?_
                refine jv_iald (pc := 113) gX gB hK hP 10 0 rfl rfl (by decide) (by omega) dM_same_113 ?_
                refine jv_icmp_ne (pc := 114) (tgt := 121) gX gB dM_same_114 (by decide) (by omega) (by omega) (fun h6 => ?_) (fun h6 => ?_)
                · skip
                  refine lv_iconst (pc := 121) (v := iv 0) gX gB dM_same_121 rfl ?_
                  exact cut122 0 _ _ _ (by exact Or.inl rfl) (by exact ⟨fun z => by omega, fun z => absurd z (by assumption)⟩) (lv_sub hl [0, 1, 3] rfl) hP hD hS
                refine lv_iconst (pc := 117) (v := iv 1) gX gB dM_same_117 rfl ?_
                refine lv_goto (pc := 118) (tgt := 122) gX gB dM_same_118 (by decide) ?_
                exact cut122 1 _ _ _ (by exact Or.inr rfl) (by exact ⟨fun _ => by assumption, fun _ => rfl⟩) (lv_sub hl [0, 1, 3] rfl) hP hD hS
            exact cut90 (((fl_68 - 0 : Int).toNat) + 1) is 0 _ _ _ (by omega) (by exact h01) (by rw [hq0]; exact ⟨fun z => ⟨z, fun j a b => by omega⟩, fun z => z.1⟩) (Nat.lt_succ_self _) (lv_sub hl [2, 3, 1, 0] rfl) hP hD hS
          refine lv_aload_n (pc := 71) gX gB dM_same_71 rfl (lv_at hl 0 rfl) ?_
          refine va_get (pc := 72) (D := (dC, dI)) (ci := 5) (v := .int (iv fl_68)) (C := RM) (T := TM) (N := 24) gX gB hw0 inM hown hK hP 0 rfl rfl 10 (by decide) (hw0 _ q661) (fun _ h9 => h9) rfl dM_same_72 ?_
          refine lv_aload_n (pc := 75) gX gB dM_same_75 rfl (lv_at hl 0 rfl) ?_
          refine va_get (pc := 76) (D := (dC, dI)) (ci := 5) (v := .int (iv fl_28)) (C := RM) (T := TM) (N := 24) gX gB hw0 inM hown hK hP 0 rfl rfl 12 (by decide) (hw0 _ q663) (fun _ h9 => h9) rfl dM_same_76 ?_
          refine jv_icmp_ne (pc := 79) (tgt := 86) gX gB dM_same_79 (by decide) (by omega) (by omega) (fun h7 => ?_) (fun h7 => ?_)
          · skip
            refine lv_iconst (pc := 86) (v := iv 0) gX gB dM_same_86 rfl ?_
            exact cut87 0 _ _ _ (by exact Or.inl rfl) (by exact ⟨fun z => by omega, fun z => absurd z (by assumption)⟩) (lv_sub hl [0, 1] rfl) hP hD hS
          refine lv_iconst (pc := 82) (v := iv 1) gX gB dM_same_82 rfl ?_
          refine lv_goto (pc := 83) (tgt := 87) gX gB dM_same_83 (by decide) ?_
          exact cut87 1 _ _ _ (by exact Or.inr rfl) (by exact ⟨fun _ => by assumption, fun _ => rfl⟩) (lv_sub hl [0, 1] rfl) hP hD hS
        refine lv_aload_n (pc := 49) gX gB dM_same_49 rfl (lv_at hl 0 rfl) ?_
        refine va_get (pc := 50) (D := (dC, dI)) (ci := 5) (v := .ref (ad 13)) (C := RM) (T := TM) (N := 24) gX gB hw0 inM hown hK hP 0 rfl rfl 13 (by decide) (hw0 _ q664) (fun _ h9 => h9) rfl dM_same_50 ?_
        refine lv_iload_n (pc := 53) gX gB dM_same_53 rfl (lv_at hl 2 rfl) ?_
        refine lv_aload_n (pc := 54) gX gB dM_same_54 rfl (lv_at hl 0 rfl) ?_
        refine va_get (pc := 55) (D := (dC, dI)) (ci := 5) (v := .ref (ad 11)) (C := RM) (T := TM) (N := 24) gX gB hw0 inM hown hK hP 0 rfl rfl 11 (by decide) (hw0 _ q662) (fun _ h9 => h9) rfl dM_same_55 ?_
        refine lv_iload_n (pc := 58) gX gB dM_same_58 rfl (lv_at hl 2 rfl) ?_
        refine jv_iald (pc := 59) gX gB hK hP 9 0 rfl rfl (by decide) (by omega) dM_same_59 ?_
        refine jv_iast (pc := 60) (ws' := (pM cI cZ cG cR ad 0 tb fi se lf ct ln tx kl kp fl_28 fo_28 fl_28 (uI ot1 i (fo_28 i)) pl_28 ky nu yk yn lc fw sd lw od)) gX gB hK hP hD hS 10 0 rfl rfl (by decide) (by omega) dM_same_60 rfl (fun H locs hP hD hS => ?_)
        refine jv_iinc (pc := 61) (k := 2) (x := i) (n := 1) (lv' := [(2, .int (iv (i + 1))), (0, .ref (ad 0)), (1, .int (iv k))]) gX gB dM_same_61 hl rfl (by decide) rfl (fun ls hl => ?_)
        refine lv_goto (pc := 64) (tgt := 41) gX gB dM_same_64 (by decide) ?_
        exact ih41 (i + 1) (uI ot1 i (fo_28 i)) _ _ _ (by omega) (by intro j a b; by_cases e : j = i; (rw [uI_e e, e]); (rw [uI_n e]; exact hc j a (by omega))) (by omega) (lv_sub hl [1, 2, 0] rfl) hP hD hS
    exact cut41 (((fl_28 - 0 : Int).toNat) + 1) 0 ot _ _ _ (by omega) (by intro j a b; omega) (Nat.lt_succ_self _) (lv_sub hl [1, 2, 0] rfl) hP hD hS
  refine lv_iconst (pc := 9) (v := iv 1) gX gB dM_same_9 rfl ?_
  refine lv_goto (pc := 10) (tgt := 14) gX gB dM_same_10 (by decide) ?_
  refine jv_put (pc := 14) (D := (dC, dI)) (ci := 5) (v := .int (iv 1)) (ty := .int) (C := RM) (T := TM) (N := 24) (ws' := (pM cI cZ cG cR ad 1 tb fi se lf ct ln tx kl kp fl fo ol ot pl ky nu yk yn lc fw sd lw od)) gX gB hw0 inM tyM tyM_ok nmM hown hK hP hD hS 0 rfl rfl 0 (by decide) (hw0 _ q651) (fun _ h9 => h9) rfl (by decide +kernel) rfl rfl (Nat.le_of_ble_eq_true rfl) dM_same_14 rfl (fun H locs hP hD hS => ?_)
  refine lv_aload_n (pc := 17) gX gB dM_same_17 rfl (lv_at hl 0 rfl) ?_
  refine va_get (pc := 18) (D := (dC, dI)) (ci := 5) (v := .int (iv 1)) (C := RM) (T := TM) (N := 24) gX gB hw0 inM hown hK hP 0 rfl rfl 0 (by decide) (hw0 _ q651) (fun _ h9 => h9) rfl dM_same_18 ?_
  refine jv_if_eq (pc := 21) (tgt := 26) gX gB dM_same_21 (by decide) (by decide) (fun h8 => ?_) (fun h8 => ?_)
  · exact absurd h8 (by decide)
  refine lv_iconst (pc := 24) (v := iv 0) gX gB dM_same_24 rfl ?_
  exact hret _ (0, 1, fl, fo, pl, ol, ot) dM_same_25 (Or.inl rfl) ⟨rfl, by first | (dsimp only; exact Or.inl ⟨by omega, rfl⟩) | (exact Or.inl ⟨by omega, rfl⟩)⟩ hP hD hS
set_option maxRecDepth 100000 in
set_option maxHeartbeats 2000000 in
theorem c_M_turnRound (l : Launch) (dC : Nat → ClassId) (dI : Nat → Nat → Nat) (cI : ClassId) (cZ : ClassId) (cG : ClassId) (cR : ClassId) (ad : Nat → Nat) (th : Int) (tb : Int → Int) (fi : Int → Int) (se : Int → Int) (lf : Int → Int) (ct : Int → Int) (ln : Int) (tx : Int → Int) (kl : Int → Int) (kp : Int → Int) (fl : Int) (fo : Int → Int) (ol : Int) (ot : Int → Int) (pl : Int → Int) (ky : Int) (nu : Int → Int) (yk : Int) (yn : Int → Int) (lc : Int → Int) (fw : Int → Int) (sd : Int → Int) (lw : Int → Int) (od : Int → Int) (sz : Nat) (fr : Int) (to : Int) (hft : 0 ≤ fr ∧ fr ≤ to ∧ to ≤ 40) : Met l yM_turnRound wsM_turnRound ({ frames := 0, cells := 0, slots := 0, locals := 0 }) (va_Pc [.ref (ad 0), .int (iv fr), .int (iv to)] (jPre (dC, dI) (jT cI cZ cG cR) (pM cI cZ cG cR ad th tb fi se lf ct ln tx kl kp fl fo ol ot pl ky nu yk yn lc fw sd lw od) sz)) (va_Qv (fun u : (Int → Int) => ∀ j, u j = if fr ≤ j ∧ j < to then od (fr + to - 1 - j) else od j) (fun u => jEnd (dC, dI) (jT cI cZ cG cR) (va_A (pM cI cZ cG cR ad th tb fi se lf ct ln tx kl kp fl fo ol ot pl ky nu yk yn lc fw sd lw od) sz) (pM cI cZ cG cR ad th tb fi se lf ct ln tx kl kp fl fo ol ot pl ky nu yk yn lc fw sd lw u)) (va_A (pM cI cZ cG cR ad th tb fi se lf ct ln tx kl kp fl fo ol ot pl ky nu yk yn lc fw sd lw od) sz)) 0 0 (va_A (pM cI cZ cG cR ad th tb fi se lf ct ln tx kl kp fl fo ol ot pl ky nu yk yn lc fw sd lw od) sz) := by
  refine jv_mv (cc := cM_turnRound) (maxL := 6) (by decide) rfl (Nat.le_of_ble_eq_true rfl) ?_
  intro p0 e0 s0 m0 a0 b0 t0 c0 R0 Q0 A0 ls gX gB hts hown hml hRf hRl hA hK hret hl hP hD hS
  have hown : s0.vm.findClass "TextPipelineModel" = some m0.cls := hown
  have hw0 : ∀ w ∈ WS0, w.before a0 s0 = true := fun w h => hts w (List.mem_cons_of_mem _ h)
  have hl : lv_has ls 6 [(0, .ref (ad 0)), (1, .int (iv fr)), (2, .int (iv to))] := hl
  have hRf : 0 ≤ R0.frames := hRf
  have hRl : 0 ≤ R0.locals := hRl
  refine lv_iload_n (pc := 0) gX gB dM_turnRound_0 rfl (lv_at hl 1 rfl) ?_
  refine lv_istore_n (pc := 1) (lv' := [(3, .int (iv fr)), (0, .ref (ad 0)), (1, .int (iv fr)), (2, .int (iv to))]) gX gB dM_turnRound_1 rfl hl (by decide) rfl (fun ls hl => ?_)
  refine lv_iload_n (pc := 2) gX gB dM_turnRound_2 rfl (lv_at hl 3 rfl) ?_
  refine lv_iconst (pc := 3) (v := iv 1) gX gB dM_turnRound_3 rfl ?_
  refine jv_isub (pc := 4) (x := to) (y := 1) gX gB dM_turnRound_4 ?_
  refine lv_istore (pc := 5) (lv' := [(4, .int (iv (to - 1))), (3, .int (iv fr)), (0, .ref (ad 0)), (1, .int (iv fr)), (2, .int (iv to))]) gX gB dM_turnRound_5 hl (by decide) rfl (fun ls hl => ?_)
  have cut7 : ∀ (n0 : Nat) (a : Int) (b : Int) (o : Int → Int) (ls : Array Slot) (H : Heap) (locs : List Loc), (fr ≤ a ∧ a ≤ to ∧ b = fr + to - 1 - a ∧ a ≤ b + 2) → (∀ j, o j = if (fr ≤ j ∧ j < a) ∨ (b < j ∧ j < to) then od (fr + to - 1 - j) else od j) → ((b - a + 1 : Int).toNat < n0) → lv_has ls 6 [(0, .ref (ad 0)), (3, .int (iv a)), (4, .int (iv b))] → va_P (dC, dI) vwCl (pM cI cZ cG cR ad th tb fi se lf ct ln tx kl kp fl fo ol ot pl ky nu yk yn lc fw sd lw o) H → va_D A0 (pM cI cZ cG cR ad th tb fi se lf ct ln tx kl kp fl fo ol ot pl ky nu yk yn lc fw sd lw o) → va_S A0 s0.heap H locs → W p0 l e0 R0 s0 m0 a0 b0 t0 c0 H locs 0 0 Q0 (F0 m0 7 ls []) := by
    intro n0
    induction n0 with
    | zero => intro a b o ls H locs hab hq hm hl hP hD hS; exact absurd hm (Nat.not_lt_zero _)
    | succ n0 ih7 =>
      intro a b o ls H locs hab hq hm7 hl hP hD hS
      refine lv_iload_n (pc := 7) gX gB dM_turnRound_7 rfl (lv_at hl 1 rfl) ?_
      refine lv_iload (pc := 8) gX gB dM_turnRound_8 (lv_at hl 2 rfl) ?_
      refine jv_icmp_ge (pc := 10) (tgt := 52) gX gB dM_turnRound_10 (by decide) (by omega) (by omega) (fun h1 => ?_) (fun h1 => ?_)
      · skip
        exact hret (o) dM_turnRound_52 (by intro j; rw [hq j]; by_cases c : (fr ≤ j ∧ j < a) ∨ (b < j ∧ j < to); (rw [if_pos c, if_pos (by omega)]); (rw [if_neg c]; by_cases d : fr ≤ j ∧ j < to; (rw [if_pos d]; congr 1; omega); (rw [if_neg d]))) hP hD hS
      refine lv_aload_n (pc := 13) gX gB dM_turnRound_13 rfl (lv_at hl 0 rfl) ?_
      refine va_get (pc := 14) (D := (dC, dI)) (ci := 5) (v := .ref (ad 23)) (C := RM) (T := TM) (N := 24) gX gB hw0 inM hown hK hP 0 rfl rfl 23 (by decide) (hw0 _ q674) (fun _ h9 => h9) rfl dM_turnRound_14 ?_
      refine lv_iload_n (pc := 17) gX gB dM_turnRound_17 rfl (lv_at hl 1 rfl) ?_
      refine jv_iald (pc := 18) gX gB hK hP 18 0 rfl rfl (by decide) (by omega) dM_turnRound_18 ?_
      refine lv_istore (pc := 19) (lv' := [(5, .int (iv (o a))), (0, .ref (ad 0)), (3, .int (iv a)), (4, .int (iv b))]) gX gB dM_turnRound_19 hl (by decide) rfl (fun ls hl => ?_)
      refine lv_aload_n (pc := 21) gX gB dM_turnRound_21 rfl (lv_at hl 1 rfl) ?_
      refine va_get (pc := 22) (D := (dC, dI)) (ci := 5) (v := .ref (ad 23)) (C := RM) (T := TM) (N := 24) gX gB hw0 inM hown hK hP 0 rfl rfl 23 (by decide) (hw0 _ q674) (fun _ h9 => h9) rfl dM_turnRound_22 ?_
      refine lv_iload_n (pc := 25) gX gB dM_turnRound_25 rfl (lv_at hl 2 rfl) ?_
      refine lv_aload_n (pc := 26) gX gB dM_turnRound_26 rfl (lv_at hl 1 rfl) ?_
      refine va_get (pc := 27) (D := (dC, dI)) (ci := 5) (v := .ref (ad 23)) (C := RM) (T := TM) (N := 24) gX gB hw0 inM hown hK hP 0 rfl rfl 23 (by decide) (hw0 _ q674) (fun _ h9 => h9) rfl dM_turnRound_27 ?_
      refine lv_iload (pc := 30) gX gB dM_turnRound_30 (lv_at hl 3 rfl) ?_
      refine jv_iald (pc := 32) gX gB hK hP 18 0 rfl rfl (by decide) (by omega) dM_turnRound_32 ?_
      refine jv_iast (pc := 33) (ws' := (pM cI cZ cG cR ad th tb fi se lf ct ln tx kl kp fl fo ol ot pl ky nu yk yn lc fw sd lw (uI o a (o b)))) gX gB hK hP hD hS 18 0 rfl rfl (by decide) (by omega) dM_turnRound_33 rfl (fun H locs hP hD hS => ?_)
      refine lv_aload_n (pc := 34) gX gB dM_turnRound_34 rfl (lv_at hl 1 rfl) ?_
      refine va_get (pc := 35) (D := (dC, dI)) (ci := 5) (v := .ref (ad 23)) (C := RM) (T := TM) (N := 24) gX gB hw0 inM hown hK hP 0 rfl rfl 23 (by decide) (hw0 _ q674) (fun _ h9 => h9) rfl dM_turnRound_35 ?_
      refine lv_iload (pc := 38) gX gB dM_turnRound_38 (lv_at hl 3 rfl) ?_
      refine lv_iload (pc := 40) gX gB dM_turnRound_40 (lv_at hl 0 rfl) ?_
      refine jv_iast (pc := 42) (ws' := (pM cI cZ cG cR ad th tb fi se lf ct ln tx kl kp fl fo ol ot pl ky nu yk yn lc fw sd lw (uI (uI o a (o b)) b (o a)))) gX gB hK hP hD hS 18 0 rfl rfl (by decide) (by omega) dM_turnRound_42 rfl (fun H locs hP hD hS => ?_)
      refine jv_iinc (pc := 43) (k := 2) (x := a) (n := 1) (lv' := [(3, .int (iv (a + 1))), (5, .int (iv (o a))), (0, .ref (ad 0)), (4, .int (iv b))]) gX gB dM_turnRound_43 hl rfl (by decide) rfl (fun ls hl => ?_)
      refine jv_idec (pc := 46) (k := 3) (x := b) (n := (-1)) (d := 1) (lv' := [(4, .int (iv (b - 1))), (3, .int (iv (a + 1))), (5, .int (iv (o a))), (0, .ref (ad 0))]) gX gB dM_turnRound_46 (by decide) hl rfl (by decide) rfl (fun ls hl => ?_)
      refine lv_goto (pc := 49) (tgt := 7) gX gB dM_turnRound_49 (by decide) ?_
      exact ih7 (a + 1) (b - 1) (uI (uI o a (o b)) b (o a)) _ _ _ (by omega) (by intro j; by_cases e1 : j = b; (rw [uI_e e1, hq a, if_neg (by omega), if_pos (by omega)]; congr 1; omega); (rw [uI_n e1]; by_cases e2 : j = a; (rw [uI_e e2, hq b, if_neg (by omega), if_pos (by omega)]; congr 1; omega); (rw [uI_n e2, hq j]; by_cases c : (fr ≤ j ∧ j < a) ∨ (b < j ∧ j < to); (rw [if_pos c, if_pos (by omega)]); (rw [if_neg c, if_neg (by omega)])))) (by omega) (lv_sub hl [3, 1, 0] rfl) hP hD hS
  exact cut7 ((((to - 1) - fr + 1 : Int).toNat) + 1) fr (to - 1) od _ _ _ (by omega) (by intro j; rw [if_neg (by omega)]) (Nat.lt_succ_self _) (lv_sub hl [2, 1, 0] rfl) hP hD hS
