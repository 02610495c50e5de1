set_option maxRecDepth 100000 in
set_option maxHeartbeats 1000000 in
theorem c_M_part (l : Launch) (dC : Nat → ClassId) (dI : Nat → Nat → Nat) (cI : ClassId) (cZ : ClassId) (cG : ClassId) (cR : ClassId) (ad : Nat → Nat) (th : Int) (tb : Int → Int) (fi : Int → Int) (se : Int → Int) (lf : Int → Int) (ct : Int → Int) (ln : Int) (tx : Int → Int) (kl : Int → Int) (kp : Int → Int) (fl : Int) (fo : Int → Int) (ol : Int) (ot : Int → Int) (pl : Int → Int) (ky : Int) (nu : Int → Int) (yk : Int) (yn : Int → Int) (lc : Int → Int) (fw : Int → Int) (sd : Int → Int) (lw : Int → Int) (od : Int → Int) (sz : Nat) (c : Int) (a : Int) (b : Int) (x : Int) (hc : -2147483648 ≤ c ∧ c < 2147483648) (ha : -2147483648 ≤ a ∧ a < 2147483648) (hb : -2147483648 ≤ b ∧ b < 2147483648) (hx9 : x = 0 ∨ x = 1) (hv : vpt fi se) : Met l yM_part wsM_part ({ frames := 1, cells := 0, slots := 0, locals := 22 }) (va_Pc [.ref (ad 0), .int (iv c), .int (iv a), .int (iv b), .int (iv x)] (jPre (dC, dI) (jT cI cZ cG cR) (pM cI cZ cG cR ad th tb fi se lf ct ln tx kl kp fl fo ol ot pl ky nu yk yn lc fw sd lw od) sz)) (va_Qv (fun u : Int × (Int → Int) × (Int → Int) × (Int → Int) × (Int → Int) => (u.1 = 1 ∧ ¬ partOK c a b ∧ u.2.1 = fi ∧ u.2.2.1 = se ∧ u.2.2.2.1 = lf) ∨ (u.1 = 2 ∧ partOK c a b ∧ ¬ SHT (uI fi c a) (uI se c b) ∧ u.2.1 = fi ∧ u.2.2.1 = se ∧ u.2.2.2.1 = lf) ∨ (u.1 = 0 ∧ partOK c a b ∧ SHT (uI fi c a) (uI se c b) ∧ u.2.1 = uI fi c a ∧ u.2.2.1 = uI se c b ∧ u.2.2.2.1 = uI lf c x)) (fun u => jEnd (dC, dI) (jT cI cZ cG cR) (va_A (pM cI cZ cG cR ad th tb fi se lf ct ln tx kl kp fl fo ol ot pl ky nu yk yn lc fw sd lw od) sz) (pM cI cZ cG cR ad u.1 tb u.2.1 u.2.2.1 u.2.2.2.1 u.2.2.2.2 ln tx kl kp fl fo ol ot pl ky nu yk yn lc fw sd lw od)) (va_A (pM cI cZ cG cR ad th tb fi se lf ct ln tx kl kp fl fo ol ot pl ky nu yk yn lc fw sd lw od) sz)) 0 0 (va_A (pM cI cZ cG cR ad th tb fi se lf ct ln tx kl kp fl fo ol ot pl ky nu yk yn lc fw sd lw od) sz) := by
  refine jv_mv (cc := cM_part) (maxL := 7) (by decide) rfl (Nat.le_of_ble_eq_true rfl) ?_
  intro p0 e0 s0 m0 a0 b0 t0 c0 R0 Q0 A0 ls gX gB hts hown hml hRf hRl hA hK hret hl hP hD hS
  have hown : s0.vm.findClass "TextPipelineModel" = some m0.cls := hown
  have hw0 : ∀ w ∈ WS0, w.before a0 s0 = true := fun w h => hts w (List.mem_cons_of_mem _ h)
  have hl : lv_has ls 7 [(0, .ref (ad 0)), (1, .int (iv c)), (2, .int (iv a)), (3, .int (iv b)), (4, .int (iv x))] := hl
  have hRf : 1 ≤ R0.frames := hRf
  have hRl : 22 ≤ R0.locals := hRl
  refine lv_aload_n (pc := 0) gX gB dM_part_0 rfl (lv_at hl 0 rfl) ?_
  have cut44 : ∀ (tv : Int) (ls : Array Slot) (H : Heap) (locs : List Loc), ((tv = 0 ∧ partOK c a b) ∨ (tv = 1 ∧ ¬ partOK c a b)) → lv_has ls 7 [(0, .ref (ad 0)), (1, .int (iv c)), (2, .int (iv a)), (3, .int (iv b)), (4, .int (iv x))] → va_P (dC, dI) vwCl (pM cI cZ cG cR ad th tb fi se lf ct ln tx kl kp fl fo ol ot pl ky nu yk yn lc fw sd lw od) H → va_D A0 (pM cI cZ cG cR ad th tb fi se lf ct ln tx kl kp fl fo ol ot pl ky nu yk yn lc fw sd lw od) → va_S A0 s0.heap H locs → W p0 l e0 R0 s0 m0 a0 b0 t0 c0 H locs 0 0 Q0 (F0 m0 44 ls [.int (iv tv), .ref (ad 0)]) := by
    intro tv ls H locs ht hl hP hD hS
    refine jv_put (pc := 44) (D := (dC, dI)) (ci := 5) (v := .int (iv tv)) (ty := .int) (C := RM) (T := TM) (N := 24) (ws' := (pM cI cZ cG cR ad tv tb fi se lf ct ln tx kl kp fl fo ol ot pl ky nu yk yn lc fw sd lw od)) gX gB hw0 inM tyM tyM_ok nmM hown hK hP hD hS 0 rfl rfl 0 (by decide) (hw0 _ q651) (fun _ h9 => h9) rfl (by decide +kernel) rfl rfl (Nat.le_of_ble_eq_true rfl) dM_part_44 rfl (fun H locs hP hD hS => ?_)
    refine lv_aload_n (pc := 47) gX gB dM_part_47 rfl (lv_at hl 0 rfl) ?_
    refine va_get (pc := 48) (D := (dC, dI)) (ci := 5) (v := .int (iv tv)) (C := RM) (T := TM) (N := 24) gX gB hw0 inM hown hK hP 0 rfl rfl 0 (by decide) (hw0 _ q651) (fun _ h9 => h9) rfl dM_part_48 ?_
    refine jv_if_eq (pc := 51) (tgt := 55) gX gB dM_part_51 (by decide) (by omega) (fun h1 => ?_) (fun h1 => ?_)
    · skip
      have hok : partOK c a b := by rcases ht with h | h; exact h.2; omega
      have hok2 := hok
      unfold partOK at hok2
      refine lv_aload_n (pc := 55) gX gB dM_part_55 rfl (lv_at hl 0 rfl) ?_
      refine va_get (pc := 56) (D := (dC, dI)) (ci := 5) (v := .ref (ad 2)) (C := RM) (T := TM) (N := 24) gX gB hw0 inM hown hK hP 0 rfl rfl 2 (by decide) (hw0 _ q653) (fun _ h9 => h9) rfl dM_part_56 ?_
      refine lv_iload_n (pc := 59) gX gB dM_part_59 rfl (lv_at hl 1 rfl) ?_
      refine jv_iald (pc := 60) gX gB hK hP 2 0 rfl rfl (by decide) (by omega) dM_part_60 ?_
      refine lv_istore (pc := 61) (lv' := [(5, .int (iv (fi c))), (0, .ref (ad 0)), (1, .int (iv c)), (2, .int (iv a)), (3, .int (iv b)), (4, .int (iv x))]) gX gB dM_part_61 hl (by decide) rfl (fun ls hl => ?_)
      refine lv_aload_n (pc := 63) gX gB dM_part_63 rfl (lv_at hl 1 rfl) ?_
      refine va_get (pc := 64) (D := (dC, dI)) (ci := 5) (v := .ref (ad 3)) (C := RM) (T := TM) (N := 24) gX gB hw0 inM hown hK hP 0 rfl rfl 3 (by decide) (hw0 _ q654) (fun _ h9 => h9) rfl dM_part_64 ?_
      refine lv_iload_n (pc := 67) gX gB dM_part_67 rfl (lv_at hl 2 rfl) ?_
      refine jv_iald (pc := 68) gX gB hK hP 3 0 rfl rfl (by decide) (by omega) dM_part_68 ?_
      refine lv_istore (pc := 69) (lv' := [(6, .int (iv (se c))), (5, .int (iv (fi c))), (0, .ref (ad 0)), (1, .int (iv c)), (2, .int (iv a)), (3, .int (iv b)), (4, .int (iv x))]) gX gB dM_part_69 hl (by decide) rfl (fun ls hl => ?_)
      refine lv_aload_n (pc := 71) gX gB dM_part_71 rfl (lv_at hl 2 rfl) ?_
      refine va_get (pc := 72) (D := (dC, dI)) (ci := 5) (v := .ref (ad 2)) (C := RM) (T := TM) (N := 24) gX gB hw0 inM hown hK hP 0 rfl rfl 2 (by decide) (hw0 _ q653) (fun _ h9 => h9) rfl dM_part_72 ?_
      refine lv_iload_n (pc := 75) gX gB dM_part_75 rfl (lv_at hl 3 rfl) ?_
      refine lv_iload_n (pc := 76) gX gB dM_part_76 rfl (lv_at hl 4 rfl) ?_
      refine jv_iast (pc := 77) (ws' := (pM cI cZ cG cR ad tv tb (uI fi c a) se lf ct ln tx kl kp fl fo ol ot pl ky nu yk yn lc fw sd lw od)) gX gB hK hP hD hS 2 0 rfl rfl (by decide) (by omega) dM_part_77 rfl (fun H locs hP hD hS => ?_)
      refine lv_aload_n (pc := 78) gX gB dM_part_78 rfl (lv_at hl 2 rfl) ?_
      refine va_get (pc := 79) (D := (dC, dI)) (ci := 5) (v := .ref (ad 3)) (C := RM) (T := TM) (N := 24) gX gB hw0 inM hown hK hP 0 rfl rfl 3 (by decide) (hw0 _ q654) (fun _ h9 => h9) rfl dM_part_79 ?_
      refine lv_iload_n (pc := 82) gX gB dM_part_82 rfl (lv_at hl 3 rfl) ?_
      refine lv_iload_n (pc := 83) gX gB dM_part_83 rfl (lv_at hl 5 rfl) ?_
      refine jv_iast (pc := 84) (ws' := (pM cI cZ cG cR ad tv tb (uI fi c a) (uI se c b) lf ct ln tx kl kp fl fo ol ot pl ky nu yk yn lc fw sd lw od)) gX gB hK hP hD hS 3 0 rfl rfl (by decide) (by omega) dM_part_84 rfl (fun H locs hP hD hS => ?_)
      refine lv_aload_n (pc := 85) gX gB dM_part_85 rfl (lv_at hl 2 rfl) ?_
      refine jv_ri (pc := 86) (wr := []) (wn := fun u : Int × (Int → Int) => (pM cI cZ cG cR ad tv tb (uI fi c a) (uI se c b) lf u.2 ln tx kl kp fl fo ol ot pl ky nu yk yn lc fw sd lw od)) (va_runV (rest := []) ⟨gX, gB, hml, hown, hw0⟩ (c_M_isShort l dC dI cI cZ cG cR ad tv tb (uI fi c a) (uI se c b) lf ct ln tx kl kp fl fo ol ot pl ky nu yk yn lc fw sd lw od _  (by exact vpt_up hv hok)) (jcV hw0 kM_isShort q736 rfl rfl ⟨Nat.le_trans (Nat.le_of_ble_eq_true rfl) hRf, Nat.le_trans (Nat.le_of_ble_eq_true rfl) hRl⟩) (jv_preV (ci := 5) (q0 := 0) hK hP hD [0, 1, 2, 3, 4, 5, 6, 7, 8, 9, 10, 11, 12, 13, 14, 15, 16, 17, 18] rfl (by decide) rfl rfl) rfl rfl hl.1 rfl (lv_room (Nat.le_of_ble_eq_true rfl)) dM_part_86 ⟨Nat.zero_le _, Nat.zero_le _⟩) hP hD hS hA [0, 1, 2, 3, 4, 5, 6, 7, 8, 9, 10, 11, 12, 13, 14, 15, 16, 17, 18] [] [0, 1, 2, 3, 4, 5, 6, 7, 8, 9, 10, 11, 12, 13, 14, 15, 16, 17, 18] rfl rfl (by decide) (by decide) (by decide) (fun _ => rfl) (fun r0 u H locs hw86 hP hD hS => ?_)
      obtain ⟨r_86, ct_86⟩ := u
      dsimp only at hw86 hP hD
      obtain ⟨rfl, hw86⟩ := hw86
      refine jv_if_ne (pc := 89) (tgt := 114) gX gB dM_part_89 (by decide) (by omega) (fun h2 => ?_) (fun h2 => ?_)
      · skip
        refine lv_aload_n (pc := 114) gX gB dM_part_114 rfl (lv_at hl 2 rfl) ?_
        refine va_get (pc := 115) (D := (dC, dI)) (ci := 5) (v := .ref (ad 4)) (C := RM) (T := TM) (N := 24) gX gB hw0 inM hown hK hP 0 rfl rfl 4 (by decide) (hw0 _ q655) (fun _ h9 => h9) rfl dM_part_115 ?_
        refine lv_iload_n (pc := 118) gX gB dM_part_118 rfl (lv_at hl 3 rfl) ?_
        refine lv_iload (pc := 119) gX gB dM_part_119 (lv_at hl 6 rfl) ?_
        refine jv_zast (pc := 121) (ws' := (pM cI cZ cG cR ad tv tb (uI fi c a) (uI se c b) (uI lf c x) ct_86 ln tx kl kp fl fo ol ot pl ky nu yk yn lc fw sd lw od)) gX gB hK hP hD hS 4 1 rfl rfl (by decide) (by omega) (by omega) dM_part_121 rfl (fun H locs hP hD hS => ?_)
        exact hret (tv, (uI fi c a), (uI se c b), (uI lf c x), ct_86) dM_part_122 (by first | (dsimp only; exact Or.inr (Or.inr ⟨by omega, hok, hw86.2.mp (by omega), rfl, rfl, rfl⟩)) | (exact Or.inr (Or.inr ⟨by omega, hok, hw86.2.mp (by omega), rfl, rfl, rfl⟩))) hP hD hS
      refine lv_aload_n (pc := 92) gX gB dM_part_92 rfl (lv_at hl 2 rfl) ?_
      refine va_get (pc := 93) (D := (dC, dI)) (ci := 5) (v := .ref (ad 2)) (C := RM) (T := TM) (N := 24) gX gB hw0 inM hown hK hP 0 rfl rfl 2 (by decide) (hw0 _ q653) (fun _ h9 => h9) rfl dM_part_93 ?_
      refine lv_iload_n (pc := 96) gX gB dM_part_96 rfl (lv_at hl 3 rfl) ?_
      refine lv_iload (pc := 97) gX gB dM_part_97 (lv_at hl 1 rfl) ?_
      refine jv_iast (pc := 99) (ws' := (pM cI cZ cG cR ad tv tb (uI (uI fi c a) c (fi c)) (uI se c b) lf ct_86 ln tx kl kp fl fo ol ot pl ky nu yk yn lc fw sd lw od)) gX gB hK hP hD hS 2 0 rfl rfl (by decide) (by omega) dM_part_99 rfl (fun H locs hP hD hS => ?_)
      refine lv_aload_n (pc := 100) gX gB dM_part_100 rfl (lv_at hl 2 rfl) ?_
      refine va_get (pc := 101) (D := (dC, dI)) (ci := 5) (v := .ref (ad 3)) (C := RM) (T := TM) (N := 24) gX gB hw0 inM hown hK hP 0 rfl rfl 3 (by decide) (hw0 _ q654) (fun _ h9 => h9) rfl dM_part_101 ?_
      refine lv_iload_n (pc := 104) gX gB dM_part_104 rfl (lv_at hl 3 rfl) ?_
      refine lv_iload (pc := 105) gX gB dM_part_105 (lv_at hl 0 rfl) ?_
      refine jv_iast (pc := 107) (ws' := (pM cI cZ cG cR ad tv tb (uI (uI fi c a) c (fi c)) (uI (uI se c b) c (se c)) lf ct_86 ln tx kl kp fl fo ol ot pl ky nu yk yn lc fw sd lw od)) gX gB hK hP hD hS 3 0 rfl rfl (by decide) (by omega) dM_part_107 rfl (fun H locs hP hD hS => ?_)
      refine lv_aload_n (pc := 108) gX gB dM_part_108 rfl (lv_at hl 2 rfl) ?_
      refine lv_iconst (pc := 109) (v := iv 2) gX gB dM_part_109 rfl ?_
      refine jv_put (pc := 110) (D := (dC, dI)) (ci := 5) (v := .int (iv 2)) (ty := .int) (C := RM) (T := TM) (N := 24) (ws' := (pM cI cZ cG cR ad 2 tb (uI (uI fi c a) c (fi c)) (uI (uI se c b) c (se c)) lf ct_86 ln tx kl kp fl fo ol ot pl ky nu yk yn lc fw sd lw od)) gX gB hw0 inM tyM tyM_ok nmM hown hK hP hD hS 0 rfl rfl 0 (by decide) (hw0 _ q651) (fun _ h9 => h9) rfl (by decide +kernel) rfl rfl (Nat.le_of_ble_eq_true rfl) dM_part_110 rfl (fun H locs hP hD hS => ?_)
      exact hret (2, (uI (uI fi c a) c (fi c)), (uI (uI se c b) c (se c)), lf, ct_86) dM_part_113 (by first | (dsimp only; exact Or.inr (Or.inl ⟨rfl, hok, fun h => by have := hw86.2.mpr h; omega, uI_back, uI_back, rfl⟩)) | (exact Or.inr (Or.inl ⟨rfl, hok, fun h => by have := hw86.2.mpr h; omega, uI_back, uI_back, rfl⟩))) hP hD hS
    exact hret (tv, fi, se, lf, ct) dM_part_54 (by first | (dsimp only; exact Or.inl ⟨by omega, by rcases ht with h | h; omega; exact h.2, rfl, rfl, rfl⟩) | (exact Or.inl ⟨by omega, by rcases ht with h | h; omega; exact h.2, rfl, rfl, rfl⟩)) hP hD hS
  refine lv_iload_n (pc := 1) gX gB dM_part_1 rfl (lv_at hl 1 rfl) ?_
  refine jv_if_lt (pc := 2) (tgt := 39) gX gB dM_part_2 (by decide) (by omega) (fun h3 => ?_) (fun h3 => ?_)
  · skip
    refine lv_iconst (pc := 39) (v := iv 1) gX gB dM_part_39 rfl ?_
    refine lv_goto (pc := 40) (tgt := 44) gX gB dM_part_40 (by decide) ?_
    exact cut44 1 _ _ _ (by unfold partOK; omega) hl hP hD hS
  refine lv_iload_n (pc := 5) gX gB dM_part_5 rfl (lv_at hl 1 rfl) ?_
  refine lv_bipush (pc := 6) (v := iv 39) gX gB dM_part_6 (by decide) ?_
  refine jv_icmp_gt (pc := 8) (tgt := 39) gX gB dM_part_8 (by decide) (by omega) (by decide) (fun h4 => ?_) (fun h4 => ?_)
  · skip
    refine lv_iconst (pc := 39) (v := iv 1) gX gB dM_part_39 rfl ?_
    refine lv_goto (pc := 40) (tgt := 44) gX gB dM_part_40 (by decide) ?_
    exact cut44 1 _ _ _ (by unfold partOK; omega) hl hP hD hS
  refine lv_iload_n (pc := 11) gX gB dM_part_11 rfl (lv_at hl 2 rfl) ?_
  refine lv_iconst (pc := 12) (v := iv (-1)) gX gB dM_part_12 rfl ?_
  refine jv_icmp_lt (pc := 13) (tgt := 39) gX gB dM_part_13 (by decide) (by omega) (by decide) (fun h5 => ?_) (fun h5 => ?_)
  · skip
    refine lv_iconst (pc := 39) (v := iv 1) gX gB dM_part_39 rfl ?_
    refine lv_goto (pc := 40) (tgt := 44) gX gB dM_part_40 (by decide) ?_
    exact cut44 1 _ _ _ (by unfold partOK; omega) hl hP hD hS
  refine lv_iload_n (pc := 16) gX gB dM_part_16 rfl (lv_at hl 2 rfl) ?_
  refine lv_iload_n (pc := 17) gX gB dM_part_17 rfl (lv_at hl 1 rfl) ?_
  refine jv_icmp_ge (pc := 18) (tgt := 39) gX gB dM_part_18 (by decide) (by omega) (by omega) (fun h6 => ?_) (fun h6 => ?_)
  · skip
    refine lv_iconst (pc := 39) (v := iv 1) gX gB dM_part_39 rfl ?_
    refine lv_goto (pc := 40) (tgt := 44) gX gB dM_part_40 (by decide) ?_
    exact cut44 1 _ _ _ (by unfold partOK; omega) hl hP hD hS
  refine lv_iload_n (pc := 21) gX gB dM_part_21 rfl (lv_at hl 3 rfl) ?_
  refine lv_iconst (pc := 22) (v := iv (-1)) gX gB dM_part_22 rfl ?_
  refine jv_icmp_lt (pc := 23) (tgt := 39) gX gB dM_part_23 (by decide) (by omega) (by decide) (fun h7 => ?_) (fun h7 => ?_)
  · skip
    refine lv_iconst (pc := 39) (v := iv 1) gX gB dM_part_39 rfl ?_
    refine lv_goto (pc := 40) (tgt := 44) gX gB dM_part_40 (by decide) ?_
    exact cut44 1 _ _ _ (by unfold partOK; omega) hl hP hD hS
  refine lv_iload_n (pc := 26) gX gB dM_part_26 rfl (lv_at hl 3 rfl) ?_
  refine lv_iload_n (pc := 27) gX gB dM_part_27 rfl (lv_at hl 1 rfl) ?_
  refine jv_icmp_ge (pc := 28) (tgt := 39) gX gB dM_part_28 (by decide) (by omega) (by omega) (fun h8 => ?_) (fun h8 => ?_)
  · skip
    refine lv_iconst (pc := 39) (v := iv 1) gX gB dM_part_39 rfl ?_
    refine lv_goto (pc := 40) (tgt := 44) gX gB dM_part_40 (by decide) ?_
    exact cut44 1 _ _ _ (by unfold partOK; omega) hl hP hD hS
  refine lv_iload_n (pc := 31) gX gB dM_part_31 rfl (lv_at hl 2 rfl) ?_
  refine jv_if_ge (pc := 32) (tgt := 43) gX gB dM_part_32 (by decide) (by omega) (fun h9 => ?_) (fun h9 => ?_)
  · skip
    refine lv_iconst (pc := 43) (v := iv 0) gX gB dM_part_43 rfl ?_
    exact cut44 0 _ _ _ (by unfold partOK; omega) hl hP hD hS
  refine lv_iload_n (pc := 35) gX gB dM_part_35 rfl (lv_at hl 3 rfl) ?_
  refine jv_if_lt (pc := 36) (tgt := 43) gX gB dM_part_36 (by decide) (by omega) (fun h10 => ?_) (fun h10 => ?_)
  · skip
    refine lv_iconst (pc := 43) (v := iv 0) gX gB dM_part_43 rfl ?_
    exact cut44 0 _ _ _ (by unfold partOK; omega) hl hP hD hS
  refine lv_iconst (pc := 39) (v := iv 1) gX gB dM_part_39 rfl ?_
  refine lv_goto (pc := 40) (tgt := 44) gX gB dM_part_40 (by decide) ?_
  exact cut44 1 _ _ _ (by unfold partOK; omega) hl hP hD hS
set_option maxRecDepth 100000 in
set_option maxHeartbeats 1000000 in
theorem c_M_putParts (l : Launch) (dC : Nat → ClassId) (dI : Nat → Nat → Nat) (cI : ClassId) (cZ : ClassId) (cG : ClassId) (cR : ClassId) (ad : Nat → Nat) (th : Int) (tb : Int → Int) (fi : Int → Int) (se : Int → Int) (lf : Int → Int) (ct : Int → Int) (ln : Int) (tx : Int → Int) (kl : Int → Int) (kp : Int → Int) (fl : Int) (fo : Int → Int) (ol : Int) (ot : Int → Int) (pl : Int → Int) (ky : Int) (nu : Int → Int) (yk : Int) (yn : Int → Int) (lc : Int → Int) (fw : Int → Int) (sd : Int → Int) (lw : Int → Int) (od : Int → Int) (sz : Nat) (c : Int) (hp : 0 ≤ c ∧ c < 75) (hv : vpt fi se) (hs : SHT fi se) (hf : 0 ≤ fl ∧ fl + 4 ≤ 170) : Met l yM_putParts wsM_putParts ({ frames := 1, cells := 0, slots := 0, locals := 21 }) (va_Pc [.ref (ad 0), .int (iv c)] (jPre (dC, dI) (jT cI cZ cG cR) (pM cI cZ cG cR ad th tb fi se lf ct ln tx kl kp fl fo ol ot pl ky nu yk yn lc fw sd lw od) sz)) (va_Qv (fun u : Int × (Int → Int) × (Int → Int) => fl ≤ u.1 ∧ u.1 = fl + (PT fi se c).length ∧ rsg u.2.1 u.1.toNat = (PT fi se c).reverse ++ rsg fo fl.toNat) (fun u => jEnd (dC, dI) (jT cI cZ cG cR) (va_A (pM cI cZ cG cR ad th tb fi se lf ct ln tx kl kp fl fo ol ot pl ky nu yk yn lc fw sd lw od) sz) (pM cI cZ cG cR ad th tb fi se lf ct ln tx kl kp u.1 u.2.1 ol ot u.2.2 ky nu yk yn lc fw sd lw od)) (va_A (pM cI cZ cG cR ad th tb fi se lf ct ln tx kl kp fl fo ol ot pl ky nu yk yn lc fw sd lw od) sz)) 0 0 (va_A (pM cI cZ cG cR ad th tb fi se lf ct ln tx kl kp fl fo ol ot pl ky nu yk yn lc fw sd lw od) sz) := by
  refine jv_mv (cc := cM_putParts) (maxL := 4) (by decide) rfl (Nat.le_of_ble_eq_true rfl) ?_
  intro p0 e0 s0 m0 a0 b0 t0 c0 R0 Q0 A0 ls gX gB hts hown hml hRf hRl hA hK hret hl hP hD hS
  have hown : s0.vm.findClass "TextPipelineModel" = some m0.cls := hown
  have hw0 : ∀ w ∈ WS0, w.before a0 s0 = true := fun w h => hts w (List.mem_cons_of_mem _ h)
  have hl : lv_has ls 4 [(0, .ref (ad 0)), (1, .int (iv c))] := hl
  have hRf : 1 ≤ R0.frames := hRf
  have hRl : 21 ≤ R0.locals := hRl
  refine lv_iconst (pc := 0) (v := iv 1) gX gB dM_putParts_0 rfl ?_
  refine lv_istore_n (pc := 1) (lv' := [(2, .int (iv 1)), (0, .ref (ad 0)), (1, .int (iv c))]) gX gB dM_putParts_1 rfl hl (by decide) rfl (fun ls hl => ?_)
  refine lv_aload_n (pc := 2) gX gB dM_putParts_2 rfl (lv_at hl 1 rfl) ?_
  refine va_get (pc := 3) (D := (dC, dI)) (ci := 5) (v := .ref (ad 14)) (C := RM) (T := TM) (N := 24) gX gB hw0 inM hown hK hP 0 rfl rfl 14 (by decide) (hw0 _ q665) (fun _ h9 => h9) rfl dM_putParts_3 ?_
  refine lv_iconst (pc := 6) (v := iv 0) gX gB dM_putParts_6 rfl ?_
  refine lv_iload_n (pc := 7) gX gB dM_putParts_7 rfl (lv_at hl 2 rfl) ?_
  refine jv_iast (pc := 8) (ws' := (pM cI cZ cG cR ad th tb fi se lf ct ln tx kl kp fl fo ol ot (uI pl 0 c) ky nu yk yn lc fw sd lw od)) gX gB hK hP hD hS 11 0 rfl rfl (by decide) (by omega) dM_putParts_8 rfl (fun H locs hP hD hS => ?_)
  have cut9 : ∀ (n0 : Nat) (n : Int) (pl1 : Int → Int) (fl1 : Int) (fo1 : Int → Int) (ls : Array Slot) (H : Heap) (locs : List Loc), (ppI fi se c fl fo n pl1 fl1 fo1) → (mND fi se (rsg pl1 (n : Int).toNat) < n0) → lv_has ls 4 [(0, .ref (ad 0)), (2, .int (iv n))] → va_P (dC, dI) vwCl (pM cI cZ cG cR ad th tb fi se lf ct ln tx kl kp fl1 fo1 ol ot pl1 ky nu yk yn lc fw sd lw od) H → va_D A0 (pM cI cZ cG cR ad th tb fi se lf ct ln tx kl kp fl1 fo1 ol ot pl1 ky nu yk yn lc fw sd lw od) → va_S A0 s0.heap H locs → W p0 l e0 R0 s0 m0 a0 b0 t0 c0 H locs 0 0 Q0 (F0 m0 9 ls []) := by
    intro n0
    induction n0 with
    | zero => intro n pl1 fl1 fo1 ls H locs hI hm hl hP hD hS; exact absurd hm (Nat.not_lt_zero _)
    | succ n0 ih9 =>
      intro n pl1 fl1 fo1 ls H locs hI hm9 hl hP hD hS
      have hI0 := hI.1
      have hbd := pp_b hv hs hp hI hf.1
      refine lv_iload_n (pc := 9) gX gB dM_putParts_9 rfl (lv_at hl 1 rfl) ?_
      refine jv_if_le (pc := 10) (tgt := 142) gX gB dM_putParts_10 (by decide) (by omega) (fun h1 => ?_) (fun h1 => ?_)
      · skip
        exact hret (fl1, fo1, pl1) dM_putParts_142 (by first | (dsimp only; have h0 : n = 0 := (by have := hI.1; omega); subst h0; have h2 := hI.2.2.2; have h3 := pp_len hI hf.1; exact ⟨hI.2.1, (by have e : (fm fi se (rsg pl1 (0 : Int).toNat)).length = 0 := rfl; omega), h2⟩) | (have h0 : n = 0 := (by have := hI.1; omega); subst h0; have h2 := hI.2.2.2; have h3 := pp_len hI hf.1; exact ⟨hI.2.1, (by have e : (fm fi se (rsg pl1 (0 : Int).toNat)).length = 0 := rfl; omega), h2⟩)) hP hD hS
      have hbd := pp_b hv hs hp hI hf.1
      have hX := pp_x hv hs hp hI hf.1 (by omega)
      have hI1 := hI.2.1
      have hps := PT_pos fi se (pl1 (n - 1))
      refine jv_idec (pc := 13) (k := 1) (x := n) (n := (-1)) (d := 1) (lv' := [(2, .int (iv (n - 1))), (0, .ref (ad 0))]) gX gB dM_putParts_13 (by decide) hl rfl (by decide) rfl (fun ls hl => ?_)
      refine lv_aload_n (pc := 16) gX gB dM_putParts_16 rfl (lv_at hl 1 rfl) ?_
      refine va_get (pc := 17) (D := (dC, dI)) (ci := 5) (v := .ref (ad 14)) (C := RM) (T := TM) (N := 24) gX gB hw0 inM hown hK hP 0 rfl rfl 14 (by decide) (hw0 _ q665) (fun _ h9 => h9) rfl dM_putParts_17 ?_
      refine lv_iload_n (pc := 20) gX gB dM_putParts_20 rfl (lv_at hl 0 rfl) ?_
      refine jv_iald (pc := 21) gX gB hK hP 11 0 rfl rfl (by decide) (by omega) dM_putParts_21 ?_
      refine lv_istore_n (pc := 22) (lv' := [(3, .int (iv (pl1 (n - 1)))), (2, .int (iv (n - 1))), (0, .ref (ad 0))]) gX gB dM_putParts_22 rfl hl (by decide) rfl (fun ls hl => ?_)
      have cut139 : ∀ (n2 : Int) (pl2 : Int → Int) (fl2 : Int) (fo2 : Int → Int) (ls : Array Slot) (H : Heap) (locs : List Loc), (ppI fi se c fl fo n2 pl2 fl2 fo2) → (mND fi se (rsg pl2 (n2 : Int).toNat) < mND fi se (rsg pl1 (n : Int).toNat)) → lv_has ls 4 [(0, .ref (ad 0)), (2, .int (iv n2))] → va_P (dC, dI) vwCl (pM cI cZ cG cR ad th tb fi se lf ct ln tx kl kp fl2 fo2 ol ot pl2 ky nu yk yn lc fw sd lw od) H → va_D A0 (pM cI cZ cG cR ad th tb fi se lf ct ln tx kl kp fl2 fo2 ol ot pl2 ky nu yk yn lc fw sd lw od) → va_S A0 s0.heap H locs → W p0 l e0 R0 s0 m0 a0 b0 t0 c0 H locs 0 0 Q0 (F0 m0 139 ls []) := by
        intro n2 pl2 fl2 fo2 ls H locs hI2 hm2 hl hP hD hS
        refine lv_goto (pc := 139) (tgt := 9) gX gB dM_putParts_139 (by decide) ?_
        exact ih9 n2 pl2 fl2 fo2 _ _ _ (by exact hI2) (by omega) hl hP hD hS
      refine lv_iload_n (pc := 23) gX gB dM_putParts_23 rfl (lv_at hl 0 rfl) ?_
      refine lv_bipush (pc := 24) (v := iv 47) gX gB dM_putParts_24 (by decide) ?_
      refine jv_icmp_le (pc := 26) (tgt := 77) gX gB dM_putParts_26 (by decide) (by omega) (by decide) (fun h2 => ?_) (fun h2 => ?_)
      · skip
        refine lv_iload_n (pc := 77) gX gB dM_putParts_77 rfl (lv_at hl 0 rfl) ?_
        refine lv_bipush (pc := 78) (v := iv 40) gX gB dM_putParts_78 (by decide) ?_
        refine jv_icmp_ge (pc := 80) (tgt := 134) gX gB dM_putParts_80 (by decide) (by omega) (by decide) (fun h3 => ?_) (fun h3 => ?_)
        · skip
          refine lv_aload_n (pc := 134) gX gB dM_putParts_134 rfl (lv_at hl 2 rfl) ?_
          refine lv_iload_n (pc := 135) gX gB dM_putParts_135 rfl (lv_at hl 0 rfl) ?_
          refine jv_rv (pc := 136) (wr := []) (wn := fun u : Int × (Int → Int) => (pM cI cZ cG cR ad th tb fi se lf ct ln tx kl kp u.1 u.2 ol ot pl1 ky nu yk yn lc fw sd lw od)) (va_runV (rest := []) ⟨gX, gB, hml, hown, hw0⟩ (c_M_put l dC dI cI cZ cG cR ad th tb fi se lf ct ln tx kl kp fl1 fo1 ol ot pl1 ky nu yk yn lc fw sd lw od _ (pl1 (n - 1)) (by omega)) (jcV hw0 kM_put q768 rfl rfl ⟨Nat.le_trans (Nat.le_of_ble_eq_true rfl) hRf, Nat.le_trans (Nat.le_of_ble_eq_true rfl) hRl⟩) (jv_preV (ci := 5) (q0 := 0) hK hP hD [0, 1, 2, 3, 4, 5, 6, 7, 8, 9, 10, 11, 12, 13, 14, 15, 16, 17, 18] rfl (by decide) rfl rfl) rfl rfl hl.1 rfl (lv_room (Nat.le_of_ble_eq_true rfl)) dM_putParts_136 ⟨Nat.zero_le _, Nat.zero_le _⟩) hP hD hS hA [0, 1, 2, 3, 4, 5, 6, 7, 8, 9, 10, 11, 12, 13, 14, 15, 16, 17, 18] [] [0, 1, 2, 3, 4, 5, 6, 7, 8, 9, 10, 11, 12, 13, 14, 15, 16, 17, 18] rfl rfl (by decide) (by decide) (by decide) (fun _ => rfl) (fun u H locs hw136 hP hD hS => ?_)
          obtain ⟨fl_136, fo_136⟩ := u
          dsimp only at hw136 hP hD
          exact cut139 (n - 1) pl1 fl_136 fo_136 _ _ _ (by refine pp_put hI (by omega) rfl (PT_own (by omega) (by omega)) (by omega) ?_; rw [hw136.2, hw136.1, rsg_put (by omega)]; rfl) (by exact mND_pop (by omega)) (lv_sub hl [2, 1] rfl) hP hD hS
        have hvx := hv (pl1 (n - 1)) (by omega) (by omega)
        refine lv_aload_n (pc := 83) gX gB dM_putParts_83 rfl (lv_at hl 2 rfl) ?_
        refine va_get (pc := 84) (D := (dC, dI)) (ci := 5) (v := .ref (ad 2)) (C := RM) (T := TM) (N := 24) gX gB hw0 inM hown hK hP 0 rfl rfl 2 (by decide) (hw0 _ q653) (fun _ h9 => h9) rfl dM_putParts_84 ?_
        refine lv_iload_n (pc := 87) gX gB dM_putParts_87 rfl (lv_at hl 0 rfl) ?_
        refine jv_iald (pc := 88) gX gB hK hP 2 0 rfl rfl (by decide) (by omega) dM_putParts_88 ?_
        refine jv_if_lt (pc := 89) (tgt := 134) gX gB dM_putParts_89 (by decide) (by omega) (fun h4 => ?_) (fun h4 => ?_)
        · skip
          refine lv_aload_n (pc := 134) gX gB dM_putParts_134 rfl (lv_at hl 2 rfl) ?_
          refine lv_iload_n (pc := 135) gX gB dM_putParts_135 rfl (lv_at hl 0 rfl) ?_
          refine jv_rv (pc := 136) (wr := []) (wn := fun u : Int × (Int → Int) => (pM cI cZ cG cR ad th tb fi se lf ct ln tx kl kp u.1 u.2 ol ot pl1 ky nu yk yn lc fw sd lw od)) (va_runV (rest := []) ⟨gX, gB, hml, hown, hw0⟩ (c_M_put l dC dI cI cZ cG cR ad th tb fi se lf ct ln tx kl kp fl1 fo1 ol ot pl1 ky nu yk yn lc fw sd lw od _ (pl1 (n - 1)) (by omega)) (jcV hw0 kM_put q768 rfl rfl ⟨Nat.le_trans (Nat.le_of_ble_eq_true rfl) hRf, Nat.le_trans (Nat.le_of_ble_eq_true rfl) hRl⟩) (jv_preV (ci := 5) (q0 := 0) hK hP hD [0, 1, 2, 3, 4, 5, 6, 7, 8, 9, 10, 11, 12, 13, 14, 15, 16, 17, 18] rfl (by decide) rfl rfl) rfl rfl hl.1 rfl (lv_room (Nat.le_of_ble_eq_true rfl)) dM_putParts_136 ⟨Nat.zero_le _, Nat.zero_le _⟩) hP hD hS hA [0, 1, 2, 3, 4, 5, 6, 7, 8, 9, 10, 11, 12, 13, 14, 15, 16, 17, 18] [] [0, 1, 2, 3, 4, 5, 6, 7, 8, 9, 10, 11, 12, 13, 14, 15, 16, 17, 18] rfl rfl (by decide) (by decide) (by decide) (fun _ => rfl) (fun u H locs hw136 hP hD hS => ?_)
          obtain ⟨fl_136, fo_136⟩ := u
          dsimp only at hw136 hP hD
          exact cut139 (n - 1) pl1 fl_136 fo_136 _ _ _ (by refine pp_put hI (by omega) rfl (PT_own (by omega) (by omega)) (by omega) ?_; rw [hw136.2, hw136.1, rsg_put (by omega)]; rfl) (by exact mND_pop (by omega)) (lv_sub hl [2, 1] rfl) hP hD hS
        refine lv_aload_n (pc := 92) gX gB dM_putParts_92 rfl (lv_at hl 2 rfl) ?_
        refine va_get (pc := 93) (D := (dC, dI)) (ci := 5) (v := .ref (ad 3)) (C := RM) (T := TM) (N := 24) gX gB hw0 inM hown hK hP 0 rfl rfl 3 (by decide) (hw0 _ q654) (fun _ h9 => h9) rfl dM_putParts_93 ?_
        refine lv_iload_n (pc := 96) gX gB dM_putParts_96 rfl (lv_at hl 0 rfl) ?_
        refine jv_iald (pc := 97) gX gB hK hP 3 0 rfl rfl (by decide) (by omega) dM_putParts_97 ?_
        refine jv_if_lt (pc := 98) (tgt := 116) gX gB dM_putParts_98 (by decide) (by omega) (fun h5 => ?_) (fun h5 => ?_)
        · skip
          refine lv_aload_n (pc := 116) gX gB dM_putParts_116 rfl (lv_at hl 2 rfl) ?_
          refine va_get (pc := 117) (D := (dC, dI)) (ci := 5) (v := .ref (ad 14)) (C := RM) (T := TM) (N := 24) gX gB hw0 inM hown hK hP 0 rfl rfl 14 (by decide) (hw0 _ q665) (fun _ h9 => h9) rfl dM_putParts_117 ?_
          refine lv_iload_n (pc := 120) gX gB dM_putParts_120 rfl (lv_at hl 1 rfl) ?_
          refine lv_aload_n (pc := 121) gX gB dM_putParts_121 rfl (lv_at hl 2 rfl) ?_
          refine va_get (pc := 122) (D := (dC, dI)) (ci := 5) (v := .ref (ad 2)) (C := RM) (T := TM) (N := 24) gX gB hw0 inM hown hK hP 0 rfl rfl 2 (by decide) (hw0 _ q653) (fun _ h9 => h9) rfl dM_putParts_122 ?_
          refine lv_iload_n (pc := 125) gX gB dM_putParts_125 rfl (lv_at hl 0 rfl) ?_
          refine jv_iald (pc := 126) gX gB hK hP 2 0 rfl rfl (by decide) (by omega) dM_putParts_126 ?_
          refine jv_iast (pc := 127) (ws' := (pM cI cZ cG cR ad th tb fi se lf ct ln tx kl kp fl1 fo1 ol ot (uI pl1 (n - 1) (fi (pl1 (n - 1)))) ky nu yk yn lc fw sd lw od)) gX gB hK hP hD hS 11 0 rfl rfl (by decide) (by omega) dM_putParts_127 rfl (fun H locs hP hD hS => ?_)
          refine jv_iinc (pc := 128) (k := 1) (x := n - 1) (n := 1) (lv' := [(2, .int (iv (n - 1 + 1))), (3, .int (iv (pl1 (n - 1)))), (0, .ref (ad 0))]) gX gB dM_putParts_128 hl rfl (by decide) rfl (fun ls hl => ?_)
          refine lv_goto (pc := 131) (tgt := 139) gX gB dM_putParts_131 (by decide) ?_
          exact cut139 (n - 1 + 1) (uI pl1 (n - 1) (fi (pl1 (n - 1)))) fl1 fo1 _ _ _ (by first | exact pp_two hv hI (by omega) rfl (by omega) (by omega) (by omega) | exact pp_one hv hI (by omega) rfl (by omega) (by omega) (by omega)) (by first | exact mND_two hv (by omega) rfl (by omega) (by omega) (by omega) | exact mND_one hv (by omega) rfl (by omega) (by omega) (by omega)) (lv_sub hl [2, 0] rfl) hP hD hS
        refine lv_aload_n (pc := 101) gX gB dM_putParts_101 rfl (lv_at hl 2 rfl) ?_
        refine va_get (pc := 102) (D := (dC, dI)) (ci := 5) (v := .ref (ad 14)) (C := RM) (T := TM) (N := 24) gX gB hw0 inM hown hK hP 0 rfl rfl 14 (by decide) (hw0 _ q665) (fun _ h9 => h9) rfl dM_putParts_102 ?_
        refine lv_iload_n (pc := 105) gX gB dM_putParts_105 rfl (lv_at hl 1 rfl) ?_
        refine lv_aload_n (pc := 106) gX gB dM_putParts_106 rfl (lv_at hl 2 rfl) ?_
        refine va_get (pc := 107) (D := (dC, dI)) (ci := 5) (v := .ref (ad 3)) (C := RM) (T := TM) (N := 24) gX gB hw0 inM hown hK hP 0 rfl rfl 3 (by decide) (hw0 _ q654) (fun _ h9 => h9) rfl dM_putParts_107 ?_
        refine lv_iload_n (pc := 110) gX gB dM_putParts_110 rfl (lv_at hl 0 rfl) ?_
        refine jv_iald (pc := 111) gX gB hK hP 3 0 rfl rfl (by decide) (by omega) dM_putParts_111 ?_
        refine jv_iast (pc := 112) (ws' := (pM cI cZ cG cR ad th tb fi se lf ct ln tx kl kp fl1 fo1 ol ot (uI pl1 (n - 1) (se (pl1 (n - 1)))) ky nu yk yn lc fw sd lw od)) gX gB hK hP hD hS 11 0 rfl rfl (by decide) (by omega) dM_putParts_112 rfl (fun H locs hP hD hS => ?_)
        refine jv_iinc (pc := 113) (k := 1) (x := n - 1) (n := 1) (lv' := [(2, .int (iv (n - 1 + 1))), (3, .int (iv (pl1 (n - 1)))), (0, .ref (ad 0))]) gX gB dM_putParts_113 hl rfl (by decide) rfl (fun ls hl => ?_)
        refine lv_aload_n (pc := 116) gX gB dM_putParts_116 rfl (lv_at hl 2 rfl) ?_
        refine va_get (pc := 117) (D := (dC, dI)) (ci := 5) (v := .ref (ad 14)) (C := RM) (T := TM) (N := 24) gX gB hw0 inM hown hK hP 0 rfl rfl 14 (by decide) (hw0 _ q665) (fun _ h9 => h9) rfl dM_putParts_117 ?_
        refine lv_iload_n (pc := 120) gX gB dM_putParts_120 rfl (lv_at hl 0 rfl) ?_
        refine lv_aload_n (pc := 121) gX gB dM_putParts_121 rfl (lv_at hl 2 rfl) ?_
        refine va_get (pc := 122) (D := (dC, dI)) (ci := 5) (v := .ref (ad 2)) (C := RM) (T := TM) (N := 24) gX gB hw0 inM hown hK hP 0 rfl rfl 2 (by decide) (hw0 _ q653) (fun _ h9 => h9) rfl dM_putParts_122 ?_
        refine lv_iload_n (pc := 125) gX gB dM_putParts_125 rfl (lv_at hl 1 rfl) ?_
        refine jv_iald (pc := 126) gX gB hK hP 2 0 rfl rfl (by decide) (by omega) dM_putParts_126 ?_
        refine jv_iast (pc := 127) (ws' := (pM cI cZ cG cR ad th tb fi se lf ct ln tx kl kp fl1 fo1 ol ot (uI (uI pl1 (n - 1) (se (pl1 (n - 1)))) (n - 1 + 1) (fi (pl1 (n - 1)))) ky nu yk yn lc fw sd lw od)) gX gB hK hP hD hS 11 0 rfl rfl (by decide) (by omega) dM_putParts_127 rfl (fun H locs hP hD hS => ?_)
        refine jv_iinc (pc := 128) (k := 0) (x := n - 1 + 1) (n := 1) (lv' := [(2, .int (iv (n - 1 + 1 + 1))), (3, .int (iv (pl1 (n - 1)))), (0, .ref (ad 0))]) gX gB dM_putParts_128 hl rfl (by decide) rfl (fun ls hl => ?_)
        refine lv_goto (pc := 131) (tgt := 139) gX gB dM_putParts_131 (by decide) ?_
        exact cut139 (n - 1 + 1 + 1) (uI (uI pl1 (n - 1) (se (pl1 (n - 1)))) (n - 1 + 1) (fi (pl1 (n - 1)))) fl1 fo1 _ _ _ (by first | exact pp_two hv hI (by omega) rfl (by omega) (by omega) (by omega) | exact pp_one hv hI (by omega) rfl (by omega) (by omega) (by omega)) (by first | exact mND_two hv (by omega) rfl (by omega) (by omega) (by omega) | exact mND_one hv (by omega) rfl (by omega) (by omega) (by omega)) (lv_sub hl [2, 0] rfl) hP hD hS
      have hsy : PT fi se (pl1 (n - 1)) = syl (pl1 (n - 1)) := PT_syl (by omega)
      rw [hsy] at hX
      have hsl := syl_len (pl1 (n - 1))
      refine lv_aload_n (pc := 29) gX gB dM_putParts_29 rfl (lv_at hl 2 rfl) ?_
      refine lv_bipush (pc := 30) (v := iv 40) gX gB dM_putParts_30 (by decide) ?_
      refine lv_iload_n (pc := 32) gX gB dM_putParts_32 rfl (lv_at hl 0 rfl) ?_
      refine lv_bipush (pc := 33) (v := iv 48) gX gB dM_putParts_33 (by decide) ?_
      refine jv_isub (pc := 35) (x := pl1 (n - 1)) (y := 48) gX gB dM_putParts_35 ?_
      refine lv_bipush (pc := 36) (v := iv 9) gX gB dM_putParts_36 (by decide) ?_
      refine jv_idiv (pc := 38) (x := (pl1 (n - 1)) - 48) (y := 9) gX gB dM_putParts_38 (by omega) (by omega) ?_
      refine jv_iadd (pc := 39) (x := 40) (y := ((pl1 (n - 1)) - 48) / 9) gX gB dM_putParts_39 ?_
      refine jv_rv (pc := 40) (wr := []) (wn := fun u : Int × (Int → Int) => (pM cI cZ cG cR ad th tb fi se lf ct ln tx kl kp u.1 u.2 ol ot pl1 ky nu yk yn lc fw sd lw od)) (va_runV (rest := []) ⟨gX, gB, hml, hown, hw0⟩ (c_M_put l dC dI cI cZ cG cR ad th tb fi se lf ct ln tx kl kp fl1 fo1 ol ot pl1 ky nu yk yn lc fw sd lw od _ (40 + (((pl1 (n - 1)) - 48) / 9)) (by omega)) (jcV hw0 kM_put q768 rfl rfl ⟨Nat.le_trans (Nat.le_of_ble_eq_true rfl) hRf, Nat.le_trans (Nat.le_of_ble_eq_true rfl) hRl⟩) (jv_preV (ci := 5) (q0 := 0) hK hP hD [0, 1, 2, 3, 4, 5, 6, 7, 8, 9, 10, 11, 12, 13, 14, 15, 16, 17, 18] rfl (by decide) rfl rfl) rfl rfl hl.1 rfl (lv_room (Nat.le_of_ble_eq_true rfl)) dM_putParts_40 ⟨Nat.zero_le _, Nat.zero_le _⟩) hP hD hS hA [0, 1, 2, 3, 4, 5, 6, 7, 8, 9, 10, 11, 12, 13, 14, 15, 16, 17, 18] [] [0, 1, 2, 3, 4, 5, 6, 7, 8, 9, 10, 11, 12, 13, 14, 15, 16, 17, 18] rfl rfl (by decide) (by decide) (by decide) (fun _ => rfl) (fun u H locs hw40 hP hD hS => ?_)
      obtain ⟨fl_40, fo_40⟩ := u
      dsimp only at hw40 hP hD
      obtain ⟨ea1, ea2⟩ := hw40
      refine lv_aload_n (pc := 43) gX gB dM_putParts_43 rfl (lv_at hl 2 rfl) ?_
      refine lv_bipush (pc := 44) (v := iv 43) gX gB dM_putParts_44 (by decide) ?_
      refine lv_iload_n (pc := 46) gX gB dM_putParts_46 rfl (lv_at hl 0 rfl) ?_
      refine lv_bipush (pc := 47) (v := iv 48) gX gB dM_putParts_47 (by decide) ?_
      refine jv_isub (pc := 49) (x := pl1 (n - 1)) (y := 48) gX gB dM_putParts_49 ?_
      refine lv_iconst (pc := 50) (v := iv 3) gX gB dM_putParts_50 rfl ?_
      refine jv_idiv (pc := 51) (x := (pl1 (n - 1)) - 48) (y := 3) gX gB dM_putParts_51 (by omega) (by omega) ?_
      refine lv_iconst (pc := 52) (v := iv 3) gX gB dM_putParts_52 rfl ?_
      refine jv_irem (pc := 53) (x := ((pl1 (n - 1)) - 48) / 3) (y := 3) gX gB dM_putParts_53 (by omega) (by omega) ?_
      refine jv_iadd (pc := 54) (x := 43) (y := (((pl1 (n - 1)) - 48) / 3) % 3) gX gB dM_putParts_54 ?_
      refine jv_rv (pc := 55) (wr := []) (wn := fun u : Int × (Int → Int) => (pM cI cZ cG cR ad th tb fi se lf ct ln tx kl kp u.1 u.2 ol ot pl1 ky nu yk yn lc fw sd lw od)) (va_runV (rest := []) ⟨gX, gB, hml, hown, hw0⟩ (c_M_put l dC dI cI cZ cG cR ad th tb fi se lf ct ln tx kl kp fl_40 fo_40 ol ot pl1 ky nu yk yn lc fw sd lw od _ (43 + ((((pl1 (n - 1)) - 48) / 3) % 3)) (by omega)) (jcV hw0 kM_put q768 rfl rfl ⟨Nat.le_trans (Nat.le_of_ble_eq_true rfl) hRf, Nat.le_trans (Nat.le_of_ble_eq_true rfl) hRl⟩) (jv_preV (ci := 5) (q0 := 0) hK hP hD [0, 1, 2, 3, 4, 5, 6, 7, 8, 9, 10, 11, 12, 13, 14, 15, 16, 17, 18] rfl (by decide) rfl rfl) rfl rfl hl.1 rfl (lv_room (Nat.le_of_ble_eq_true rfl)) dM_putParts_55 ⟨Nat.zero_le _, Nat.zero_le _⟩) hP hD hS hA [0, 1, 2, 3, 4, 5, 6, 7, 8, 9, 10, 11, 12, 13, 14, 15, 16, 17, 18] [] [0, 1, 2, 3, 4, 5, 6, 7, 8, 9, 10, 11, 12, 13, 14, 15, 16, 17, 18] rfl rfl (by decide) (by decide) (by decide) (fun _ => rfl) (fun u H locs hw55 hP hD hS => ?_)
      obtain ⟨fl_55, fo_55⟩ := u
      dsimp only at hw55 hP hD
      obtain ⟨eb1, eb2⟩ := hw55
      refine lv_iload_n (pc := 58) gX gB dM_putParts_58 rfl (lv_at hl 0 rfl) ?_
      refine lv_iconst (pc := 59) (v := iv 3) gX gB dM_putParts_59 rfl ?_
      refine jv_irem (pc := 60) (x := pl1 (n - 1)) (y := 3) gX gB dM_putParts_60 (by omega) (by omega) ?_
      refine jv_if_eq (pc := 61) (tgt := 139) gX gB dM_putParts_61 (by decide) (by omega) (fun h6 => ?_) (fun h6 => ?_)
      · skip
        exact cut139 (n - 1) pl1 fl_55 fo_55 _ _ _ (by refine pp_put hI (by omega) rfl hsy (by omega) ?_; rw [eb2, eb1, ea2, ea1, rsg_put (by omega), rsg_put (by omega)]; unfold syl; rw [if_pos (by omega)]; rfl) (by exact mND_pop (by omega)) (lv_sub hl [2, 1] rfl) hP hD hS
      refine lv_aload_n (pc := 64) gX gB dM_putParts_64 rfl (lv_at hl 2 rfl) ?_
      refine lv_bipush (pc := 65) (v := iv 45) gX gB dM_putParts_65 (by decide) ?_
      refine lv_iload_n (pc := 67) gX gB dM_putParts_67 rfl (lv_at hl 0 rfl) ?_
      refine lv_iconst (pc := 68) (v := iv 3) gX gB dM_putParts_68 rfl ?_
      refine jv_irem (pc := 69) (x := pl1 (n - 1)) (y := 3) gX gB dM_putParts_69 (by omega) (by omega) ?_
      refine jv_iadd (pc := 70) (x := 45) (y := (pl1 (n - 1)) % 3) gX gB dM_putParts_70 ?_
      refine jv_rv (pc := 71) (wr := []) (wn := fun u : Int × (Int → Int) => (pM cI cZ cG cR ad th tb fi se lf ct ln tx kl kp u.1 u.2 ol ot pl1 ky nu yk yn lc fw sd lw od)) (va_runV (rest := []) ⟨gX, gB, hml, hown, hw0⟩ (c_M_put l dC dI cI cZ cG cR ad th tb fi se lf ct ln tx kl kp fl_55 fo_55 ol ot pl1 ky nu yk yn lc fw sd lw od _ (45 + ((pl1 (n - 1)) % 3)) (by omega)) (jcV hw0 kM_put q768 rfl rfl ⟨Nat.le_trans (Nat.le_of_ble_eq_true rfl) hRf, Nat.le_trans (Nat.le_of_ble_eq_true rfl) hRl⟩) (jv_preV (ci := 5) (q0 := 0) hK hP hD [0, 1, 2, 3, 4, 5, 6, 7, 8, 9, 10, 11, 12, 13, 14, 15, 16, 17, 18] rfl (by decide) rfl rfl) rfl rfl hl.1 rfl (lv_room (Nat.le_of_ble_eq_true rfl)) dM_putParts_71 ⟨Nat.zero_le _, Nat.zero_le _⟩) hP hD hS hA [0, 1, 2, 3, 4, 5, 6, 7, 8, 9, 10, 11, 12, 13, 14, 15, 16, 17, 18] [] [0, 1, 2, 3, 4, 5, 6, 7, 8, 9, 10, 11, 12, 13, 14, 15, 16, 17, 18] rfl rfl (by decide) (by decide) (by decide) (fun _ => rfl) (fun u H locs hw71 hP hD hS => ?_)
      obtain ⟨fl_71, fo_71⟩ := u
      dsimp only at hw71 hP hD
      obtain ⟨ed1, ed2⟩ := hw71
      refine lv_goto (pc := 74) (tgt := 139) gX gB dM_putParts_74 (by decide) ?_
      exact cut139 (n - 1) pl1 fl_71 fo_71 _ _ _ (by refine pp_put hI (by omega) rfl hsy (by omega) ?_; rw [ed2, ed1, eb2, eb1, ea2, ea1, rsg_put (by omega), rsg_put (by omega), rsg_put (by omega)]; unfold syl; rw [if_neg (by omega)]; rfl) (by exact mND_pop (by omega)) (lv_sub hl [2, 1] rfl) hP hD hS
  exact cut9 ((mND fi se (rsg (uI pl 0 c) (1 : Int).toNat)) + 1) 1 (uI pl 0 c) fl fo _ _ _ (by refine ⟨by omega, by omega, ?_, ?_⟩; (intro y hy; obtain ⟨j, h1, h2, h3⟩ := rsg_mem hy; rw [← h3, show j = 0 by omega, uI_s]; exact hp); (show (fm fi se (uI pl 0 c 0 :: [])).reverse ++ _ = _; rw [uI_s, fm_c]; show (PT fi se c ++ []).reverse ++ _ = _; rw [List.append_nil])) (Nat.lt_succ_self _) (lv_sub hl [1, 0] rfl) hP hD hS
set_option maxRecDepth 100000 in
set_option maxHeartbeats 1000000 in
theorem c_M_rankForm (l : Launch) (dC : Nat → ClassId) (dI : Nat → Nat → Nat) (cI : ClassId) (cZ : ClassId) (cG : ClassId) (cR : ClassId) (ad : Nat → Nat) (th : Int) (tb : Int → Int) (fi : Int → Int) (se : Int → Int) (lf : Int → Int) (ct : Int → Int) (ln : Int) (tx : Int → Int) (kl : Int → Int) (kp : Int → Int) (fl : Int) (fo : Int → Int) (ol : Int) (ot : Int → Int) (pl : Int → Int) (ky : Int) (nu : Int → Int) (yk : Int) (yn : Int → Int) (lc : Int → Int) (fw : Int → Int) (sd : Int → Int) (lw : Int → Int) (od : Int → Int) (sz : Nat) (hT : TBK tb) (hf : 0 ≤ fl ∧ fl ≤ 170) (hfo : ∀ j, 0 ≤ j → j < fl → 0 ≤ fo j ∧ fo j < 75) : Met l yM_rankForm wsM_rankForm ({ frames := 2, cells := 0, slots := 0, locals := 43 }) (va_Pc [.ref (ad 0)] (jPre (dC, dI) (jT cI cZ cG cR) (pM cI cZ cG cR ad th tb fi se lf ct ln tx kl kp fl fo ol ot pl ky nu yk yn lc fw sd lw od) sz)) (va_Qv (fun u : (Int → Int) => sg u 0 fl.toNat = rnds (rkM tb) fl.toNat (sg fo 0 fl.toNat)) (fun u => jEnd (dC, dI) (jT cI cZ cG cR) (va_A (pM cI cZ cG cR ad th tb fi se lf ct ln tx kl kp fl fo ol ot pl ky nu yk yn lc fw sd lw od) sz) (pM cI cZ cG cR ad th tb fi se lf ct ln tx kl kp fl u ol ot pl ky nu yk yn lc fw sd lw od)) (va_A (pM cI cZ cG cR ad th tb fi se lf ct ln tx kl kp fl fo ol ot pl ky nu yk yn lc fw sd lw od) sz)) 0 0 (va_A (pM cI cZ cG cR ad th tb fi se lf ct ln tx kl kp fl fo ol ot pl ky nu yk yn lc fw sd lw od) sz) := by
  refine jv_mv (cc := cM_rankForm) (maxL := 5) (by decide) rfl (Nat.le_of_ble_eq_true rfl) ?_
  intro p0 e0 s0 m0 a0 b0 t0 c0 R0 Q0 A0 ls gX gB hts hown hml hRf hRl hA hK hret hl hP hD hS
  have hown : s0.vm.findClass "TextPipelineModel" = some m0.cls := hown
  have hw0 : ∀ w ∈ WS0, w.before a0 s0 = true := fun w h => hts w (List.mem_cons_of_mem _ h)
  have hl : lv_has ls 5 [(0, .ref (ad 0))] := hl
  have hRf : 2 ≤ R0.frames := hRf
  have hRl : 43 ≤ R0.locals := hRl
  refine lv_iconst (pc := 0) (v := iv 0) gX gB dM_rankForm_0 rfl ?_
  refine lv_istore_n (pc := 1) (lv' := [(1, .int (iv 0)), (0, .ref (ad 0))]) gX gB dM_rankForm_1 rfl hl (by decide) rfl (fun ls hl => ?_)
  have cut2 : ∀ (n0 : Nat) (rd : Int) (fo1 : Int → Int) (ls : Array Slot) (H : Heap) (locs : List Loc), (0 ≤ rd ∧ rd ≤ fl) → (∀ j, 0 ≤ j → j < fl → 0 ≤ fo1 j ∧ fo1 j < 75) → (rnds (rkM tb) (fl - rd : Int).toNat (sg fo1 0 fl.toNat) = rnds (rkM tb) fl.toNat (sg fo 0 fl.toNat)) → ((fl - rd : Int).toNat < n0) → lv_has ls 5 [(0, .ref (ad 0)), (1, .int (iv rd))] → va_P (dC, dI) vwCl (pM cI cZ cG cR ad th tb fi se lf ct ln tx kl kp fl fo1 ol ot pl ky nu yk yn lc fw sd lw od) H → va_D A0 (pM cI cZ cG cR ad th tb fi se lf ct ln tx kl kp fl fo1 ol ot pl ky nu yk yn lc fw sd lw od) → va_S A0 s0.heap H locs → W p0 l e0 R0 s0 m0 a0 b0 t0 c0 H locs 0 0 Q0 (F0 m0 2 ls []) := by
    intro n0
    induction n0 with
    | zero => intro rd fo1 ls H locs hr1 hg1 he1 hm hl hP hD hS; exact absurd hm (Nat.not_lt_zero _)
    | succ n0 ih2 =>
      intro rd fo1 ls H locs hr1 hg1 he1 hm2 hl hP hD hS
      refine lv_iload_n (pc := 2) gX gB dM_rankForm_2 rfl (lv_at hl 1 rfl) ?_
      refine lv_aload_n (pc := 3) gX gB dM_rankForm_3 rfl (lv_at hl 0 rfl) ?_
      refine va_get (pc := 4) (D := (dC, dI)) (ci := 5) (v := .int (iv fl)) (C := RM) (T := TM) (N := 24) gX gB hw0 inM hown hK hP 0 rfl rfl 10 (by decide) (hw0 _ q661) (fun _ h9 => h9) rfl dM_rankForm_4 ?_
      refine jv_icmp_ge (pc := 7) (tgt := 91) gX gB dM_rankForm_7 (by decide) (by omega) (by omega) (fun h1 => ?_) (fun h1 => ?_)
      · skip
        exact hret (fo1) dM_rankForm_91 (by rw [show (fl - rd : Int).toNat = 0 by omega] at he1; exact he1) hP hD hS
      refine lv_iconst (pc := 10) (v := iv 0) gX gB dM_rankForm_10 rfl ?_
      refine lv_istore_n (pc := 11) (lv' := [(2, .int (iv 0)), (0, .ref (ad 0)), (1, .int (iv rd))]) gX gB dM_rankForm_11 rfl hl (by decide) rfl (fun ls hl => ?_)
      have cut12 : ∀ (n0 : Nat) (i : Int) (fo2 : Int → Int) (ls : Array Slot) (H : Heap) (locs : List Loc), (0 ≤ i ∧ i + 1 ≤ fl) → (∀ j, 0 ≤ j → j < fl → 0 ≤ fo2 j ∧ fo2 j < 75) → (rdI (rkM tb) fl fo1 fo2 i) → ((fl - i : Int).toNat < n0) → lv_has ls 5 [(0, .ref (ad 0)), (1, .int (iv rd)), (2, .int (iv i))] → va_P (dC, dI) vwCl (pM cI cZ cG cR ad th tb fi se lf ct ln tx kl kp fl fo2 ol ot pl ky nu yk yn lc fw sd lw od) H → va_D A0 (pM cI cZ cG cR ad th tb fi se lf ct ln tx kl kp fl fo2 ol ot pl ky nu yk yn lc fw sd lw od) → va_S A0 s0.heap H locs → W p0 l e0 R0 s0 m0 a0 b0 t0 c0 H locs 0 0 Q0 (F0 m0 12 ls []) := by
        intro n0
        induction n0 with
        | zero => intro i fo2 ls H locs hi1 hg2 he2 hm hl hP hD hS; exact absurd hm (Nat.not_lt_zero _)
        | succ n0 ih12 =>
          intro i fo2 ls H locs hi1 hg2 he2 hm12 hl hP hD hS
          refine lv_iload_n (pc := 12) gX gB dM_rankForm_12 rfl (lv_at hl 2 rfl) ?_
          refine lv_iconst (pc := 13) (v := iv 1) gX gB dM_rankForm_13 rfl ?_
          refine jv_iadd (pc := 14) (x := i) (y := 1) gX gB dM_rankForm_14 ?_
          refine lv_aload_n (pc := 15) gX gB dM_rankForm_15 rfl (lv_at hl 0 rfl) ?_
          refine va_get (pc := 16) (D := (dC, dI)) (ci := 5) (v := .int (iv fl)) (C := RM) (T := TM) (N := 24) gX gB hw0 inM hown hK hP 0 rfl rfl 10 (by decide) (hw0 _ q661) (fun _ h9 => h9) rfl dM_rankForm_16 ?_
          refine jv_icmp_ge (pc := 19) (tgt := 85) gX gB dM_rankForm_19 (by decide) (by omega) (by omega) (fun h2 => ?_) (fun h2 => ?_)
          · skip
            refine jv_iinc (pc := 85) (k := 1) (x := rd) (n := 1) (lv' := [(1, .int (iv (rd + 1))), (0, .ref (ad 0)), (2, .int (iv i))]) gX gB dM_rankForm_85 hl rfl (by decide) rfl (fun ls hl => ?_)
            refine lv_goto (pc := 88) (tgt := 2) gX gB dM_rankForm_88 (by decide) ?_
            exact ih2 (rd + 1) fo2 _ _ _ (by omega) (by exact hg2) (by rw [rd_end he2 (by omega) (by omega), ← he1, show (fl - rd : Int).toNat = (fl - (rd + 1) : Int).toNat + 1 by omega]; rfl) (by omega) (lv_sub hl [1, 0] rfl) hP hD hS
          have hx1 := hg2 i (by omega) (by omega)
          have hx2 := hg2 (i + 1) (by omega) (by omega)
          refine lv_aload_n (pc := 22) gX gB dM_rankForm_22 rfl (lv_at hl 0 rfl) ?_
          refine va_get (pc := 23) (D := (dC, dI)) (ci := 5) (v := .ref (ad 11)) (C := RM) (T := TM) (N := 24) gX gB hw0 inM hown hK hP 0 rfl rfl 11 (by decide) (hw0 _ q662) (fun _ h9 => h9) rfl dM_rankForm_23 ?_
          refine lv_iload_n (pc := 26) gX gB dM_rankForm_26 rfl (lv_at hl 2 rfl) ?_
          refine jv_iald (pc := 27) gX gB hK hP 9 0 rfl rfl (by decide) (by omega) dM_rankForm_27 ?_
          refine lv_istore_n (pc := 28) (lv' := [(3, .int (iv (fo2 i))), (0, .ref (ad 0)), (1, .int (iv rd)), (2, .int (iv i))]) gX gB dM_rankForm_28 rfl hl (by decide) rfl (fun ls hl => ?_)
          refine lv_aload_n (pc := 29) gX gB dM_rankForm_29 rfl (lv_at hl 1 rfl) ?_
          refine va_get (pc := 30) (D := (dC, dI)) (ci := 5) (v := .ref (ad 11)) (C := RM) (T := TM) (N := 24) gX gB hw0 inM hown hK hP 0 rfl rfl 11 (by decide) (hw0 _ q662) (fun _ h9 => h9) rfl dM_rankForm_30 ?_
          refine lv_iload_n (pc := 33) gX gB dM_rankForm_33 rfl (lv_at hl 3 rfl) ?_
          refine lv_iconst (pc := 34) (v := iv 1) gX gB dM_rankForm_34 rfl ?_
          refine jv_iadd (pc := 35) (x := i) (y := 1) gX gB dM_rankForm_35 ?_
          refine jv_iald (pc := 36) gX gB hK hP 9 0 rfl rfl (by decide) (by omega) dM_rankForm_36 ?_
          refine lv_istore (pc := 37) (lv' := [(4, .int (iv (fo2 (i + 1)))), (3, .int (iv (fo2 i))), (0, .ref (ad 0)), (1, .int (iv rd)), (2, .int (iv i))]) gX gB dM_rankForm_37 hl (by decide) rfl (fun ls hl => ?_)
          have cut79 : ∀ (fo3 : Int → Int) (ls : Array Slot) (H : Heap) (locs : List Loc), (∀ j, 0 ≤ j → j < fl → 0 ≤ fo3 j ∧ fo3 j < 75) → (rdI (rkM tb) fl fo1 fo3 (i + 1)) → lv_has ls 5 [(0, .ref (ad 0)), (1, .int (iv rd)), (2, .int (iv i))] → va_P (dC, dI) vwCl (pM cI cZ cG cR ad th tb fi se lf ct ln tx kl kp fl fo3 ol ot pl ky nu yk yn lc fw sd lw od) H → va_D A0 (pM cI cZ cG cR ad th tb fi se lf ct ln tx kl kp fl fo3 ol ot pl ky nu yk yn lc fw sd lw od) → va_S A0 s0.heap H locs → W p0 l e0 R0 s0 m0 a0 b0 t0 c0 H locs 0 0 Q0 (F0 m0 79 ls []) := by
            intro fo3 ls H locs hg3 he3 hl hP hD hS
            refine jv_iinc (pc := 79) (k := 2) (x := i) (n := 1) (lv' := [(2, .int (iv (i + 1))), (0, .ref (ad 0)), (1, .int (iv rd))]) gX gB dM_rankForm_79 hl rfl (by decide) rfl (fun ls hl => ?_)
            refine lv_goto (pc := 82) (tgt := 12) gX gB dM_rankForm_82 (by decide) ?_
            exact ih12 (i + 1) fo3 _ _ _ (by omega) (by exact hg3) (by exact he3) (by omega) (lv_sub hl [1, 2, 0] rfl) hP hD hS
          refine lv_aload_n (pc := 39) gX gB dM_rankForm_39 rfl (lv_at hl 2 rfl) ?_
          refine lv_iload_n (pc := 40) gX gB dM_rankForm_40 rfl (lv_at hl 1 rfl) ?_
          refine jv_ri (pc := 41) (wr := []) (wn := fun u : Int => (pM cI cZ cG cR ad th tb fi se lf ct ln tx kl kp fl fo2 ol ot pl ky nu yk yn lc fw sd lw od)) (va_runV (rest := []) ⟨gX, gB, hml, hown, hw0⟩ (c_M_rank l dC dI cI cZ cG cR ad th tb fi se lf ct ln tx kl kp fl fo2 ol ot pl ky nu yk yn lc fw sd lw od _ (fo2 i) (by omega) (by omega)) (jcV hw0 kM_rank q776 rfl rfl ⟨Nat.le_trans (Nat.le_of_ble_eq_true rfl) hRf, Nat.le_trans (Nat.le_of_ble_eq_true rfl) hRl⟩) (jv_preV (ci := 5) (q0 := 0) hK hP hD [0, 1, 2, 3, 4, 5, 6, 7, 8, 9, 10, 11, 12, 13, 14, 15, 16, 17, 18] rfl (by decide) rfl rfl) rfl rfl hl.1 rfl (lv_room (Nat.le_of_ble_eq_true rfl)) dM_rankForm_41 ⟨Nat.zero_le _, Nat.zero_le _⟩) hP hD hS hA [0, 1, 2, 3, 4, 5, 6, 7, 8, 9, 10, 11, 12, 13, 14, 15, 16, 17, 18] [] [0, 1, 2, 3, 4, 5, 6, 7, 8, 9, 10, 11, 12, 13, 14, 15, 16, 17, 18] rfl rfl (by decide) (by decide) (by decide) (fun _ => rfl) (fun r0 u H locs hw41 hP hD hS => ?_)
          obtain ⟨r_41, hu⟩ : ∃ z, z = u := ⟨_, rfl⟩; subst hu
          obtain ⟨rfl, hw41⟩ := hw41
          refine lv_aload_n (pc := 44) gX gB dM_rankForm_44 rfl (lv_at hl 2 rfl) ?_
          refine lv_iload (pc := 45) gX gB dM_rankForm_45 (lv_at hl 0 rfl) ?_
          refine jv_ri (pc := 47) (wr := []) (wn := fun u : Int => (pM cI cZ cG cR ad th tb fi se lf ct ln tx kl kp fl fo2 ol ot pl ky nu yk yn lc fw sd lw od)) (va_runV (rest := [.int (iv r_41)]) ⟨gX, gB, hml, hown, hw0⟩ (c_M_rank l dC dI cI cZ cG cR ad th tb fi se lf ct ln tx kl kp fl fo2 ol ot pl ky nu yk yn lc fw sd lw od _ (fo2 (i + 1)) (by omega) (by omega)) (jcV hw0 kM_rank q776 rfl rfl ⟨Nat.le_trans (Nat.le_of_ble_eq_true rfl) hRf, Nat.le_trans (Nat.le_of_ble_eq_true rfl) hRl⟩) (jv_preV (ci := 5) (q0 := 0) hK hP hD [0, 1, 2, 3, 4, 5, 6, 7, 8, 9, 10, 11, 12, 13, 14, 15, 16, 17, 18] rfl (by decide) rfl rfl) rfl rfl hl.1 rfl (lv_room (Nat.le_of_ble_eq_true rfl)) dM_rankForm_47 ⟨Nat.zero_le _, Nat.zero_le _⟩) hP hD hS hA [0, 1, 2, 3, 4, 5, 6, 7, 8, 9, 10, 11, 12, 13, 14, 15, 16, 17, 18] [] [0, 1, 2, 3, 4, 5, 6, 7, 8, 9, 10, 11, 12, 13, 14, 15, 16, 17, 18] rfl rfl (by decide) (by decide) (by decide) (fun _ => rfl) (fun r0 u H locs hw47 hP hD hS => ?_)
          obtain ⟨r_47, hu⟩ : ∃ z, z = u := ⟨_, rfl⟩; subst hu
          obtain ⟨rfl, hw47⟩ := hw47
          refine jv_icmp_le (pc := 50) (tgt := 79) gX gB dM_rankForm_50 (by decide) (by omega) (by omega) (fun h3 => ?_) (fun h3 => ?_)
          · skip
            exact cut79 fo2 _ _ _ (by exact hg2) (by exact rd_no he2 (by omega) (by omega) (by omega)) (lv_sub hl [2, 3, 4] rfl) hP hD hS
          refine lv_aload_n (pc := 53) gX gB dM_rankForm_53 rfl (lv_at hl 2 rfl) ?_
          refine lv_iload (pc := 54) gX gB dM_rankForm_54 (lv_at hl 0 rfl) ?_
          refine jv_ri (pc := 56) (wr := []) (wn := fun u : Int => (pM cI cZ cG cR ad th tb fi se lf ct ln tx kl kp fl fo2 ol ot pl ky nu yk yn lc fw sd lw od)) (va_runV (rest := []) ⟨gX, gB, hml, hown, hw0⟩ (c_M_rank l dC dI cI cZ cG cR ad th tb fi se lf ct ln tx kl kp fl fo2 ol ot pl ky nu yk yn lc fw sd lw od _ (fo2 (i + 1)) (by omega) (by omega)) (jcV hw0 kM_rank q776 rfl rfl ⟨Nat.le_trans (Nat.le_of_ble_eq_true rfl) hRf, Nat.le_trans (Nat.le_of_ble_eq_true rfl) hRl⟩) (jv_preV (ci := 5) (q0 := 0) hK hP hD [0, 1, 2, 3, 4, 5, 6, 7, 8, 9, 10, 11, 12, 13, 14, 15, 16, 17, 18] rfl (by decide) rfl rfl) rfl rfl hl.1 rfl (lv_room (Nat.le_of_ble_eq_true rfl)) dM_rankForm_56 ⟨Nat.zero_le _, Nat.zero_le _⟩) hP hD hS hA [0, 1, 2, 3, 4, 5, 6, 7, 8, 9, 10, 11, 12, 13, 14, 15, 16, 17, 18] [] [0, 1, 2, 3, 4, 5, 6, 7, 8, 9, 10, 11, 12, 13, 14, 15, 16, 17, 18] rfl rfl (by decide) (by decide) (by decide) (fun _ => rfl) (fun r0 u H locs hw56 hP hD hS => ?_)
          obtain ⟨r_56, hu⟩ : ∃ z, z = u := ⟨_, rfl⟩; subst hu
          obtain ⟨rfl, hw56⟩ := hw56
          refine jv_if_le (pc := 59) (tgt := 79) gX gB dM_rankForm_59 (by decide) (by omega) (fun h4 => ?_) (fun h4 => ?_)
          · skip
            exact cut79 fo2 _ _ _ (by exact hg2) (by exact rd_no he2 (by omega) (by omega) (by omega)) (lv_sub hl [2, 3, 4] rfl) hP hD hS
          refine lv_aload_n (pc := 62) gX gB dM_rankForm_62 rfl (lv_at hl 2 rfl) ?_
          refine va_get (pc := 63) (D := (dC, dI)) (ci := 5) (v := .ref (ad 11)) (C := RM) (T := TM) (N := 24) gX gB hw0 inM hown hK hP 0 rfl rfl 11 (by decide) (hw0 _ q662) (fun _ h9 => h9) rfl dM_rankForm_63 ?_
          refine lv_iload_n (pc := 66) gX gB dM_rankForm_66 rfl (lv_at hl 4 rfl) ?_
          refine lv_iload (pc := 67) gX gB dM_rankForm_67 (lv_at hl 0 rfl) ?_
          refine jv_iast (pc := 69) (ws' := (pM cI cZ cG cR ad th tb fi se lf ct ln tx kl kp fl (uI fo2 i (fo2 (i + 1))) ol ot pl ky nu yk yn lc fw sd lw od)) gX gB hK hP hD hS 9 0 rfl rfl (by decide) (by omega) dM_rankForm_69 rfl (fun H locs hP hD hS => ?_)
          refine lv_aload_n (pc := 70) gX gB dM_rankForm_70 rfl (lv_at hl 2 rfl) ?_
          refine va_get (pc := 71) (D := (dC, dI)) (ci := 5) (v := .ref (ad 11)) (C := RM) (T := TM) (N := 24) gX gB hw0 inM hown hK hP 0 rfl rfl 11 (by decide) (hw0 _ q662) (fun _ h9 => h9) rfl dM_rankForm_71 ?_
          refine lv_iload_n (pc := 74) gX gB dM_rankForm_74 rfl (lv_at hl 4 rfl) ?_
          refine lv_iconst (pc := 75) (v := iv 1) gX gB dM_rankForm_75 rfl ?_
          refine jv_iadd (pc := 76) (x := i) (y := 1) gX gB dM_rankForm_76 ?_
          refine lv_iload_n (pc := 77) gX gB dM_rankForm_77 rfl (lv_at hl 1 rfl) ?_
          refine jv_iast (pc := 78) (ws' := (pM cI cZ cG cR ad th tb fi se lf ct ln tx kl kp fl (uI (uI fo2 i (fo2 (i + 1))) (i + 1) (fo2 i)) ol ot pl ky nu yk yn lc fw sd lw od)) gX gB hK hP hD hS 9 0 rfl rfl (by decide) (by omega) dM_rankForm_78 rfl (fun H locs hP hD hS => ?_)
          exact cut79 (uI (uI fo2 i (fo2 (i + 1))) (i + 1) (fo2 i)) _ _ _ (by intro j a b; by_cases e1 : j = i + 1; (rw [uI_e e1]; exact hx1); (rw [uI_n e1]; by_cases e2 : j = i; (rw [uI_e e2]; exact hx2); (rw [uI_n e2]; exact hg2 j a b))) (by exact rd_sw he2 (by omega) (by omega) (by omega)) (lv_sub hl [2, 3, 4] rfl) hP hD hS
      exact cut12 (((fl - 0 : Int).toNat) + 1) 0 fo1 _ _ _ (by omega) (by exact hg1) (by exact rd_0 (by omega)) (Nat.lt_succ_self _) (lv_sub hl [1, 2, 0] rfl) hP hD hS
  exact cut2 (((fl - 0 : Int).toNat) + 1) 0 fo _ _ _ (by omega) (by exact hfo) (by rw [show (fl - 0 : Int) = fl by omega]) (Nat.lt_succ_self _) (lv_sub hl [1, 0] rfl) hP hD hS
set_option maxRecDepth 100000 in
set_option maxHeartbeats 1000000 in
theorem c_M_partText (l : Launch) (dC : Nat → ClassId) (dI : Nat → Nat → Nat) (cI : ClassId) (cZ : ClassId) (cG : ClassId) (cR : ClassId) (ad : Nat → Nat) (th : Int) (tb : Int → Int) (fi : Int → Int) (se : Int → Int) (lf : Int → Int) (ct : Int → Int) (ln : Int) (tx : Int → Int) (kl : Int → Int) (kp : Int → Int) (fl : Int) (fo : Int → Int) (ol : Int) (ot : Int → Int) (pl : Int → Int) (ky : Int) (nu : Int → Int) (yk : Int) (yn : Int → Int) (lc : Int → Int) (fw : Int → Int) (sd : Int → Int) (lw : Int → Int) (od : Int → Int) (sz : Nat) (hT : TBK tb) (hv : vpt fi se) (hs : SHT fi se) (hl9 : 0 ≤ ln ∧ ln ≤ 40) (htx : ∀ j, 0 ≤ j → j < ln → 0 ≤ tx j ∧ tx j < 75) : Met l yM_partText wsM_partText ({ frames := 3, cells := 0, slots := 0, locals := 67 }) (va_Pc [.ref (ad 0)] (jPre (dC, dI) (jT cI cZ cG cR) (pM cI cZ cG cR ad th tb fi se lf ct ln tx kl kp fl fo ol ot pl ky nu yk yn lc fw sd lw od) sz)) (va_Qv (fun u : Int × (Int → Int) × (Int → Int) => 0 ≤ u.1 ∧ u.1 ≤ 160 ∧ rsg u.2.1 u.1.toNat = FM (rkM tb) fi se tx ln) (fun u => jEnd (dC, dI) (jT cI cZ cG cR) (va_A (pM cI cZ cG cR ad th tb fi se lf ct ln tx kl kp fl fo ol ot pl ky nu yk yn lc fw sd lw od) sz) (pM cI cZ cG cR ad th tb fi se lf ct ln tx kl kp u.1 u.2.1 ol ot u.2.2 ky nu yk yn lc fw sd lw od)) (va_A (pM cI cZ cG cR ad th tb fi se lf ct ln tx kl kp fl fo ol ot pl ky nu yk yn lc fw sd lw od) sz)) 0 0 (va_A (pM cI cZ cG cR ad th tb fi se lf ct ln tx kl kp fl fo ol ot pl ky nu yk yn lc fw sd lw od) sz) := by
  refine jv_mv (cc := cM_partText) (maxL := 2) (by decide) rfl (Nat.le_of_ble_eq_true rfl) ?_
  intro p0 e0 s0 m0 a0 b0 t0 c0 R0 Q0 A0 ls gX gB hts hown hml hRf hRl hA hK hret hl hP hD hS
  have hown : s0.vm.findClass "TextPipelineModel" = some m0.cls := hown
  have hw0 : ∀ w ∈ WS0, w.before a0 s0 = true := fun w h => hts w (List.mem_cons_of_mem _ h)
  have hl : lv_has ls 2 [(0, .ref (ad 0))] := hl
  have hRf : 3 ≤ R0.frames := hRf
  have hRl : 67 ≤ R0.locals := hRl
  refine lv_aload_n (pc := 0) gX gB dM_partText_0 rfl (lv_at hl 0 rfl) ?_
  refine lv_iconst (pc := 1) (v := iv 0) gX gB dM_partText_1 rfl ?_
  refine jv_put (pc := 2) (D := (dC, dI)) (ci := 5) (v := .int (iv 0)) (ty := .int) (C := RM) (T := TM) (N := 24) (ws' := (pM cI cZ cG cR ad th tb fi se lf ct ln tx kl kp 0 fo ol ot pl ky nu yk yn lc fw sd lw od)) gX gB hw0 inM tyM tyM_ok nmM hown hK hP hD hS 0 rfl rfl 10 (by decide) (hw0 _ q661) (fun _ h9 => h9) rfl (by decide +kernel) rfl rfl (Nat.le_of_ble_eq_true rfl) dM_partText_2 rfl (fun H locs hP hD hS => ?_)
  refine lv_iconst (pc := 5) (v := iv 0) gX gB dM_partText_5 rfl ?_
  refine lv_istore_n (pc := 6) (lv' := [(1, .int (iv 0)), (0, .ref (ad 0))]) gX gB dM_partText_6 rfl hl (by decide) rfl (fun ls hl => ?_)
  have cut7 : ∀ (n0 : Nat) (i : Int) (fl1 : Int) (fo1 : Int → Int) (pl1 : Int → Int) (ls : Array Slot) (H : Heap) (locs : List Loc), (0 ≤ i ∧ i ≤ ln) → (0 ≤ fl1 ∧ fl1 ≤ 4 * i) → (rsg fo1 fl1.toNat = (ap fi se tx i.toNat).reverse) → ((ln - i : Int).toNat < n0) → lv_has ls 2 [(0, .ref (ad 0)), (1, .int (iv i))] → va_P (dC, dI) vwCl (pM cI cZ cG cR ad th tb fi se lf ct ln tx kl kp fl1 fo1 ol ot pl1 ky nu yk yn lc fw sd lw od) H → va_D A0 (pM cI cZ cG cR ad th tb fi se lf ct ln tx kl kp fl1 fo1 ol ot pl1 ky nu yk yn lc fw sd lw od) → va_S A0 s0.heap H locs → W p0 l e0 R0 s0 m0 a0 b0 t0 c0 H locs 0 0 Q0 (F0 m0 7 ls []) := by
    intro n0
    induction n0 with
    | zero => intro i fl1 fo1 pl1 ls H locs hi hf1 he hm hl hP hD hS; exact absurd hm (Nat.not_lt_zero _)
    | succ n0 ih7 =>
      intro i fl1 fo1 pl1 ls H locs hi hf1 he hm7 hl hP hD hS
      refine lv_iload_n (pc := 7) gX gB dM_partText_7 rfl (lv_at hl 1 rfl) ?_
      refine lv_aload_n (pc := 8) gX gB dM_partText_8 rfl (lv_at hl 0 rfl) ?_
      refine va_get (pc := 9) (D := (dC, dI)) (ci := 5) (v := .int (iv ln)) (C := RM) (T := TM) (N := 24) gX gB hw0 inM hown hK hP 0 rfl rfl 6 (by decide) (hw0 _ q657) (fun _ h9 => h9) rfl dM_partText_9 ?_
      refine jv_icmp_ge (pc := 12) (tgt := 31) gX gB dM_partText_12 (by decide) (by omega) (by omega) (fun h1 => ?_) (fun h1 => ?_)
      · skip
        have hsg : sg fo1 0 fl1.toNat = ap fi se tx ln.toNat := by rw [sg_rsg, he, List.reverse_reverse, show i = ln by omega]
        refine lv_aload_n (pc := 31) gX gB dM_partText_31 rfl (lv_at hl 0 rfl) ?_
        refine jv_rv (pc := 32) (wr := []) (wn := fun u : (Int → Int) => (pM cI cZ cG cR ad th tb fi se lf ct ln tx kl kp fl1 u ol ot pl1 ky nu yk yn lc fw sd lw od)) (va_runV (rest := []) ⟨gX, gB, hml, hown, hw0⟩ (c_M_rankForm l dC dI cI cZ cG cR ad th tb fi se lf ct ln tx kl kp fl1 fo1 ol ot pl1 ky nu yk yn lc fw sd lw od _  (by omega) (by omega) (by intro j a b; have hm : fo1 j ∈ ap fi se tx ln.toNat := (by have h9 := rsg_in (g := fo1) (n := fl1.toNat) (j := j) a (by omega); rw [rsg_sg, hsg, List.mem_reverse] at h9; exact h9); have := ap_mem hv ln.toNat (fun j a b => htx j a (by omega)) _ hm; omega)) (jcV hw0 kM_rankForm q772 rfl rfl ⟨Nat.le_trans (Nat.le_of_ble_eq_true rfl) hRf, Nat.le_trans (Nat.le_of_ble_eq_true rfl) hRl⟩) (jv_preV (ci := 5) (q0 := 0) hK hP hD [0, 1, 2, 3, 4, 5, 6, 7, 8, 9, 10, 11, 12, 13, 14, 15, 16, 17, 18] rfl (by decide) rfl rfl) rfl rfl hl.1 rfl (lv_room (Nat.le_of_ble_eq_true rfl)) dM_partText_32 ⟨Nat.zero_le _, Nat.zero_le _⟩) hP hD hS hA [0, 1, 2, 3, 4, 5, 6, 7, 8, 9, 10, 11, 12, 13, 14, 15, 16, 17, 18] [] [0, 1, 2, 3, 4, 5, 6, 7, 8, 9, 10, 11, 12, 13, 14, 15, 16, 17, 18] rfl rfl (by decide) (by decide) (by decide) (fun _ => rfl) (fun u H locs hw32 hP hD hS => ?_)
        obtain ⟨fo_32, hu⟩ : ∃ z, z = u := ⟨_, rfl⟩; subst hu
        exact hret (fl1, fo_32, pl1) dM_partText_35 (by first | (dsimp only; refine ⟨by omega, by omega, ?_⟩; have h9 := hw32; rw [hsg] at h9; have hl1 : (ap fi se tx ln.toNat).length = fl1.toNat := (by rw [← hsg, sg_len]); rw [← hl1, rnds_srt, hl1] at h9; rw [rsg_sg, h9, List.reverse_reverse]; rfl) | (refine ⟨by omega, by omega, ?_⟩; have h9 := hw32; rw [hsg] at h9; have hl1 : (ap fi se tx ln.toNat).length = fl1.toNat := (by rw [← hsg, sg_len]); rw [← hl1, rnds_srt, hl1] at h9; rw [rsg_sg, h9, List.reverse_reverse]; rfl)) hP hD hS
      have hti := htx i (by omega) (by omega)
      have hp4 := PT_le4 hv hs hti.1 hti.2
      refine lv_aload_n (pc := 15) gX gB dM_partText_15 rfl (lv_at hl 0 rfl) ?_
      refine lv_aload_n (pc := 16) gX gB dM_partText_16 rfl (lv_at hl 0 rfl) ?_
      refine va_get (pc := 17) (D := (dC, dI)) (ci := 5) (v := .ref (ad 7)) (C := RM) (T := TM) (N := 24) gX gB hw0 inM hown hK hP 0 rfl rfl 7 (by decide) (hw0 _ q658) (fun _ h9 => h9) rfl dM_partText_17 ?_
      refine lv_iload_n (pc := 20) gX gB dM_partText_20 rfl (lv_at hl 1 rfl) ?_
      refine jv_iald (pc := 21) gX gB hK hP 6 0 rfl rfl (by decide) (by omega) dM_partText_21 ?_
      refine jv_rv (pc := 22) (wr := []) (wn := fun u : Int × (Int → Int) × (Int → Int) => (pM cI cZ cG cR ad th tb fi se lf ct ln tx kl kp u.1 u.2.1 ol ot u.2.2 ky nu yk yn lc fw sd lw od)) (va_runV (rest := []) ⟨gX, gB, hml, hown, hw0⟩ (c_M_putParts l dC dI cI cZ cG cR ad th tb fi se lf ct ln tx kl kp fl1 fo1 ol ot pl1 ky nu yk yn lc fw sd lw od _ (tx i) (by omega) (by omega) (by omega) (by omega)) (jcV hw0 kM_putParts q764 rfl rfl ⟨Nat.le_trans (Nat.le_of_ble_eq_true rfl) hRf, Nat.le_trans (Nat.le_of_ble_eq_true rfl) hRl⟩) (jv_preV (ci := 5) (q0 := 0) hK hP hD [0, 1, 2, 3, 4, 5, 6, 7, 8, 9, 10, 11, 12, 13, 14, 15, 16, 17, 18] rfl (by decide) rfl rfl) rfl rfl hl.1 rfl (lv_room (Nat.le_of_ble_eq_true rfl)) dM_partText_22 ⟨Nat.zero_le _, Nat.zero_le _⟩) hP hD hS hA [0, 1, 2, 3, 4, 5, 6, 7, 8, 9, 10, 11, 12, 13, 14, 15, 16, 17, 18] [] [0, 1, 2, 3, 4, 5, 6, 7, 8, 9, 10, 11, 12, 13, 14, 15, 16, 17, 18] rfl rfl (by decide) (by decide) (by decide) (fun _ => rfl) (fun u H locs hw22 hP hD hS => ?_)
      obtain ⟨fl_22, fo_22, pl_22⟩ := u
      dsimp only at hw22 hP hD
      refine jv_iinc (pc := 25) (k := 1) (x := i) (n := 1) (lv' := [(1, .int (iv (i + 1))), (0, .ref (ad 0))]) gX gB dM_partText_25 hl rfl (by decide) rfl (fun ls hl => ?_)
      refine lv_goto (pc := 28) (tgt := 7) gX gB dM_partText_28 (by decide) ?_
      exact ih7 (i + 1) fl_22 fo_22 pl_22 _ _ _ (by omega) (by omega) (by rw [hw22.2.2, he, show (i + 1).toNat = i.toNat + 1 by omega, ← List.reverse_append]; show _ = (ap fi se tx i.toNat ++ PT fi se (tx (i.toNat : Int))).reverse; rw [show ((i.toNat : Int)) = i by omega]) (by omega) (lv_sub hl [1, 0] rfl) hP hD hS
  exact cut7 (((ln - 0 : Int).toNat) + 1) 0 0 fo pl _ _ _ (by omega) (by omega) (by rfl) (Nat.lt_succ_self _) (lv_sub hl [1, 0] rfl) hP hD hS
set_option maxRecDepth 100000 in
set_option maxHeartbeats 1000000 in
theorem c_M_partKept (l : Launch) (dC : Nat → ClassId) (dI : Nat → Nat → Nat) (cI : ClassId) (cZ : ClassId) (cG : ClassId) (cR : ClassId) (ad : Nat → Nat) (th : Int) (tb : Int → Int) (fi : Int → Int) (se : Int → Int) (lf : Int → Int) (ct : Int → Int) (ln : Int) (tx : Int → Int) (kl : Int → Int) (kp : Int → Int) (fl : Int) (fo : Int → Int) (ol : Int) (ot : Int → Int) (pl : Int → Int) (ky : Int) (nu : Int → Int) (yk : Int) (yn : Int → Int) (lc : Int → Int) (fw : Int → Int) (sd : Int → Int) (lw : Int → Int) (od : Int → Int) (sz : Nat) (k : Int) (hT : TBK tb) (hv : vpt fi se) (hs : SHT fi se) (hk : 0 ≤ k ∧ k < 4) (hl9 : 0 ≤ kl k ∧ kl k ≤ 40) (hkp : ∀ j, 0 ≤ j → j < kl k → 0 ≤ kp (40 * k + j) ∧ kp (40 * k + j) < 75) : Met l yM_partKept wsM_partKept ({ frames := 3, cells := 0, slots := 0, locals := 67 }) (va_Pc [.ref (ad 0), .int (iv k)] (jPre (dC, dI) (jT cI cZ cG cR) (pM cI cZ cG cR ad th tb fi se lf ct ln tx kl kp fl fo ol ot pl ky nu yk yn lc fw sd lw od) sz)) (va_Qv (fun u : Int × (Int → Int) × (Int → Int) => 0 ≤ u.1 ∧ u.1 ≤ 160 ∧ rsg u.2.1 u.1.toNat = FM (rkM tb) fi se (fun j => kp (40 * k + j)) (kl k)) (fun u => jEnd (dC, dI) (jT cI cZ cG cR) (va_A (pM cI cZ cG cR ad th tb fi se lf ct ln tx kl kp fl fo ol ot pl ky nu yk yn lc fw sd lw od) sz) (pM cI cZ cG cR ad th tb fi se lf ct ln tx kl kp u.1 u.2.1 ol ot u.2.2 ky nu yk yn lc fw sd lw od)) (va_A (pM cI cZ cG cR ad th tb fi se lf ct ln tx kl kp fl fo ol ot pl ky nu yk yn lc fw sd lw od) sz)) 0 0 (va_A (pM cI cZ cG cR ad th tb fi se lf ct ln tx kl kp fl fo ol ot pl ky nu yk yn lc fw sd lw od) sz) := by
  refine jv_mv (cc := cM_partKept) (maxL := 3) (by decide) rfl (Nat.le_of_ble_eq_true rfl) ?_
  intro p0 e0 s0 m0 a0 b0 t0 c0 R0 Q0 A0 ls gX gB hts hown hml hRf hRl hA hK hret hl hP hD hS
  have hown : s0.vm.findClass "TextPipelineModel" = some m0.cls := hown
  have hw0 : ∀ w ∈ WS0, w.before a0 s0 = true := fun w h => hts w (List.mem_cons_of_mem _ h)
  have hl : lv_has ls 3 [(0, .ref (ad 0)), (1, .int (iv k))] := hl
  have hRf : 3 ≤ R0.frames := hRf
  have hRl : 67 ≤ R0.locals := hRl
  refine lv_aload_n (pc := 0) gX gB dM_partKept_0 rfl (lv_at hl 0 rfl) ?_
  refine lv_iconst (pc := 1) (v := iv 0) gX gB dM_partKept_1 rfl ?_
  refine jv_put (pc := 2) (D := (dC, dI)) (ci := 5) (v := .int (iv 0)) (ty := .int) (C := RM) (T := TM) (N := 24) (ws' := (pM cI cZ cG cR ad th tb fi se lf ct ln tx kl kp 0 fo ol ot pl ky nu yk yn lc fw sd lw od)) gX gB hw0 inM tyM tyM_ok nmM hown hK hP hD hS 0 rfl rfl 10 (by decide) (hw0 _ q661) (fun _ h9 => h9) rfl (by decide +kernel) rfl rfl (Nat.le_of_ble_eq_true rfl) dM_partKept_2 rfl (fun H locs hP hD hS => ?_)
  refine lv_iconst (pc := 5) (v := iv 0) gX gB dM_partKept_5 rfl ?_
  refine lv_istore_n (pc := 6) (lv' := [(2, .int (iv 0)), (0, .ref (ad 0)), (1, .int (iv k))]) gX gB dM_partKept_6 rfl hl (by decide) rfl (fun ls hl => ?_)
  have cut7 : ∀ (n0 : Nat) (i : Int) (fl1 : Int) (fo1 : Int → Int) (pl1 : Int → Int) (ls : Array Slot) (H : Heap) (locs : List Loc), (0 ≤ i ∧ i ≤ kl k) → (0 ≤ fl1 ∧ fl1 ≤ 4 * i) → (rsg fo1 fl1.toNat = (ap fi se (fun j => kp (40 * k + j)) i.toNat).reverse) → ((kl k - i : Int).toNat < n0) → lv_has ls 3 [(0, .ref (ad 0)), (1, .int (iv k)), (2, .int (iv i))] → va_P (dC, dI) vwCl (pM cI cZ cG cR ad th tb fi se lf ct ln tx kl kp fl1 fo1 ol ot pl1 ky nu yk yn lc fw sd lw od) H → va_D A0 (pM cI cZ cG cR ad th tb fi se lf ct ln tx kl kp fl1 fo1 ol ot pl1 ky nu yk yn lc fw sd lw od) → va_S A0 s0.heap H locs → W p0 l e0 R0 s0 m0 a0 b0 t0 c0 H locs 0 0 Q0 (F0 m0 7 ls []) := by
    intro n0
    induction n0 with
    | zero => intro i fl1 fo1 pl1 ls H locs hi hf1 he hm hl hP hD hS; exact absurd hm (Nat.not_lt_zero _)
    | succ n0 ih7 =>
      intro i fl1 fo1 pl1 ls H locs hi hf1 he hm7 hl hP hD hS
      refine lv_iload_n (pc := 7) gX gB dM_partKept_7 rfl (lv_at hl 2 rfl) ?_
      refine lv_aload_n (pc := 8) gX gB dM_partKept_8 rfl (lv_at hl 0 rfl) ?_
      refine va_get (pc := 9) (D := (dC, dI)) (ci := 5) (v := .ref (ad 8)) (C := RM) (T := TM) (N := 24) gX gB hw0 inM hown hK hP 0 rfl rfl 8 (by decide) (hw0 _ q659) (fun _ h9 => h9) rfl dM_partKept_9 ?_
      refine lv_iload_n (pc := 12) gX gB dM_partKept_12 rfl (lv_at hl 1 rfl) ?_
      refine jv_iald (pc := 13) gX gB hK hP 7 0 rfl rfl (by decide) (by omega) dM_partKept_13 ?_
      refine jv_icmp_ge (pc := 14) (tgt := 38) gX gB dM_partKept_14 (by decide) (by omega) (by omega) (fun h1 => ?_) (fun h1 => ?_)
      · skip
        have hsg : sg fo1 0 fl1.toNat = ap fi se (fun j => kp (40 * k + j)) (kl k).toNat := by rw [sg_rsg, he, List.reverse_reverse, show i = kl k by omega]
        refine lv_aload_n (pc := 38) gX gB dM_partKept_38 rfl (lv_at hl 0 rfl) ?_
        refine jv_rv (pc := 39) (wr := []) (wn := fun u : (Int → Int) => (pM cI cZ cG cR ad th tb fi se lf ct ln tx kl kp fl1 u ol ot pl1 ky nu yk yn lc fw sd lw od)) (va_runV (rest := []) ⟨gX, gB, hml, hown, hw0⟩ (c_M_rankForm l dC dI cI cZ cG cR ad th tb fi se lf ct ln tx kl kp fl1 fo1 ol ot pl1 ky nu yk yn lc fw sd lw od _  (by omega) (by omega) (by intro j a b; have hm : fo1 j ∈ ap fi se (fun j => kp (40 * k + j)) (kl k).toNat := (by have h9 := rsg_in (g := fo1) (n := fl1.toNat) (j := j) a (by omega); rw [rsg_sg, hsg, List.mem_reverse] at h9; exact h9); have := ap_mem hv (kl k).toNat (fun j a b => hkp j a (by omega)) _ hm; omega)) (jcV hw0 kM_rankForm q772 rfl rfl ⟨Nat.le_trans (Nat.le_of_ble_eq_true rfl) hRf, Nat.le_trans (Nat.le_of_ble_eq_true rfl) hRl⟩) (jv_preV (ci := 5) (q0 := 0) hK hP hD [0, 1, 2, 3, 4, 5, 6, 7, 8, 9, 10, 11, 12, 13, 14, 15, 16, 17, 18] rfl (by decide) rfl rfl) rfl rfl hl.1 rfl (lv_room (Nat.le_of_ble_eq_true rfl)) dM_partKept_39 ⟨Nat.zero_le _, Nat.zero_le _⟩) hP hD hS hA [0, 1, 2, 3, 4, 5, 6, 7, 8, 9, 10, 11, 12, 13, 14, 15, 16, 17, 18] [] [0, 1, 2, 3, 4, 5, 6, 7, 8, 9, 10, 11, 12, 13, 14, 15, 16, 17, 18] rfl rfl (by decide) (by decide) (by decide) (fun _ => rfl) (fun u H locs hw39 hP hD hS => ?_)
        obtain ⟨fo_39, hu⟩ : ∃ z, z = u := ⟨_, rfl⟩; subst hu
        exact hret (fl1, fo_39, pl1) dM_partKept_42 (by first | (dsimp only; refine ⟨by omega, by omega, ?_⟩; have h9 := hw39; rw [hsg] at h9; have hl1 : (ap fi se (fun j => kp (40 * k + j)) (kl k).toNat).length = fl1.toNat := (by rw [← hsg, sg_len]); rw [← hl1, rnds_srt, hl1] at h9; rw [rsg_sg, h9, List.reverse_reverse]; rfl) | (refine ⟨by omega, by omega, ?_⟩; have h9 := hw39; rw [hsg] at h9; have hl1 : (ap fi se (fun j => kp (40 * k + j)) (kl k).toNat).length = fl1.toNat := (by rw [← hsg, sg_len]); rw [← hl1, rnds_srt, hl1] at h9; rw [rsg_sg, h9, List.reverse_reverse]; rfl)) hP hD hS
      have hti := hkp i (by omega) (by omega)
      have hp4 := PT_le4 hv hs hti.1 hti.2
      refine lv_aload_n (pc := 17) gX gB dM_partKept_17 rfl (lv_at hl 0 rfl) ?_
      refine lv_aload_n (pc := 18) gX gB dM_partKept_18 rfl (lv_at hl 0 rfl) ?_
      refine va_get (pc := 19) (D := (dC, dI)) (ci := 5) (v := .ref (ad 9)) (C := RM) (T := TM) (N := 24) gX gB hw0 inM hown hK hP 0 rfl rfl 9 (by decide) (hw0 _ q660) (fun _ h9 => h9) rfl dM_partKept_19 ?_
      refine lv_bipush (pc := 22) (v := iv 40) gX gB dM_partKept_22 (by decide) ?_
      refine lv_iload_n (pc := 24) gX gB dM_partKept_24 rfl (lv_at hl 1 rfl) ?_
      refine jv_imul (pc := 25) (x := 40) (y := k) gX gB dM_partKept_25 ?_
      refine lv_iload_n (pc := 26) gX gB dM_partKept_26 rfl (lv_at hl 2 rfl) ?_
      refine jv_iadd (pc := 27) (x := 40 * k) (y := i) gX gB dM_partKept_27 ?_
      refine jv_iald (pc := 28) gX gB hK hP 8 0 rfl rfl (by decide) (by omega) dM_partKept_28 ?_
      refine jv_rv (pc := 29) (wr := []) (wn := fun u : Int × (Int → Int) × (Int → Int) => (pM cI cZ cG cR ad th tb fi se lf ct ln tx kl kp u.1 u.2.1 ol ot u.2.2 ky nu yk yn lc fw sd lw od)) (va_runV (rest := []) ⟨gX, gB, hml, hown, hw0⟩ (c_M_putParts l dC dI cI cZ cG cR ad th tb fi se lf ct ln tx kl kp fl1 fo1 ol ot pl1 ky nu yk yn lc fw sd lw od _ (kp ((40 * k) + i)) (by omega) (by omega) (by omega) (by omega)) (jcV hw0 kM_putParts q764 rfl rfl ⟨Nat.le_trans (Nat.le_of_ble_eq_true rfl) hRf, Nat.le_trans (Nat.le_of_ble_eq_true rfl) hRl⟩) (jv_preV (ci := 5) (q0 := 0) hK hP hD [0, 1, 2, 3, 4, 5, 6, 7, 8, 9, 10, 11, 12, 13, 14, 15, 16, 17, 18] rfl (by decide) rfl rfl) rfl rfl hl.1 rfl (lv_room (Nat.le_of_ble_eq_true rfl)) dM_partKept_29 ⟨Nat.zero_le _, Nat.zero_le _⟩) hP hD hS hA [0, 1, 2, 3, 4, 5, 6, 7, 8, 9, 10, 11, 12, 13, 14, 15, 16, 17, 18] [] [0, 1, 2, 3, 4, 5, 6, 7, 8, 9, 10, 11, 12, 13, 14, 15, 16, 17, 18] rfl rfl (by decide) (by decide) (by decide) (fun _ => rfl) (fun u H locs hw29 hP hD hS => ?_)
      obtain ⟨fl_29, fo_29, pl_29⟩ := u
      dsimp only at hw29 hP hD
      refine jv_iinc (pc := 32) (k := 2) (x := i) (n := 1) (lv' := [(2, .int (iv (i + 1))), (0, .ref (ad 0)), (1, .int (iv k))]) gX gB dM_partKept_32 hl rfl (by decide) rfl (fun ls hl => ?_)
      refine lv_goto (pc := 35) (tgt := 7) gX gB dM_partKept_35 (by decide) ?_
      exact ih7 (i + 1) fl_29 fo_29 pl_29 _ _ _ (by omega) (by omega) (by rw [hw29.2.2, he, show (i + 1).toNat = i.toNat + 1 by omega, ← List.reverse_append]; show _ = (ap fi se (fun j => kp (40 * k + j)) i.toNat ++ PT fi se (kp (40 * k + (i.toNat : Int)))).reverse; rw [show ((i.toNat : Int)) = i by omega]) (by omega) (lv_sub hl [1, 2, 0] rfl) hP hD hS
  exact cut7 (((kl k - 0 : Int).toNat) + 1) 0 0 fo pl _ _ _ (by omega) (by omega) (by rfl) (Nat.lt_succ_self _) (lv_sub hl [1, 2, 0] rfl) hP hD hS
