set_option maxRecDepth 100000 in
set_option maxHeartbeats 4000000 in
theorem c_M_order (l : Launch) (dC : Nat → ClassId) (dI : Nat → Nat → Nat) (cI : ClassId) (cZ : ClassId) (cG : ClassId) (cR : ClassId) (ad : Nat → Nat) (th : Int) (tb : Int → Int) (fi : Int → Int) (se : Int → Int) (lf : Int → Int) (ct : Int → Int) (ln : Int) (tx : Int → Int) (kl : Int → Int) (kp : Int → Int) (fl : Int) (fo : Int → Int) (ol : Int) (ot : Int → Int) (pl : Int → Int) (ky : Int) (nu : Int → Int) (yk : Int) (yn : Int → Int) (lc : Int → Int) (fw : Int → Int) (sd : Int → Int) (lw : Int → Int) (od : Int → Int) (sz : Nat) (i : Int) (wt : Int) (hT : TBK tb) (hi : -2147483648 ≤ i ∧ i < 2147483648) (hw9 : -2147483648 ≤ wt ∧ wt < 2147483648) (hl9 : 0 ≤ ln ∧ ln ≤ 40) (htx : ∀ j, 0 ≤ j → j < ln → 0 ≤ tx j ∧ tx j < 75) : Met l yM_order wsM_order ({ frames := 4, cells := 0, slots := 0, locals := 91 }) (va_Pc [.ref (ad 0), .int (iv i), .int (iv wt)] (jPre (dC, dI) (jT cI cZ cG cR) (pM cI cZ cG cR ad th tb fi se lf ct ln tx kl kp fl fo ol ot pl ky nu yk yn lc fw sd lw od) sz)) (va_Qi (fun (r0 : Int32) (u : Int × Int × (Int → Int) × (Int → Int) × (Int → Int)) => r0 = iv u.1 ∧ (((i < 0 ∨ ln ≤ i) ∧ u.2.1 = 1) ∨ (0 ≤ i ∧ i < ln ∧ u.2.1 = 0 ∧ u.1 = odm (lvf (szM tb) tx ln wt) ln 0 i))) (fun u => jEnd (dC, dI) (jT cI cZ cG cR) (va_A (pM cI cZ cG cR ad th tb fi se lf ct ln tx kl kp fl fo ol ot pl ky nu yk yn lc fw sd lw od) sz) (pM cI cZ cG cR ad u.2.1 tb fi se lf ct ln tx kl kp fl fo ol ot pl ky nu yk yn lc fw u.2.2.1 u.2.2.2.1 u.2.2.2.2)) (va_A (pM cI cZ cG cR ad th tb fi se lf ct ln tx kl kp fl fo ol ot pl ky nu yk yn lc fw sd lw od) sz)) 0 0 (va_A (pM cI cZ cG cR ad th tb fi se lf ct ln tx kl kp fl fo ol ot pl ky nu yk yn lc fw sd lw od) sz) := by
  refine jv_mi (cc := cM_order) (maxL := 6) (by decide) rfl (Nat.le_of_ble_eq_true rfl) ?_
  intro p0 e0 s0 m0 a0 b0 t0 c0 R0 Q0 A0 ls gX gB hts hown hml hRf hRl hA hK hret hl hP hD hS
  have hown : s0.vm.findClass "TextPipelineModel" = some m0.cls := hown
  have hw0 : ∀ w ∈ WS0, w.before a0 s0 = true := fun w h => hts w (List.mem_cons_of_mem _ h)
  have hl : lv_has ls 6 [(0, .ref (ad 0)), (1, .int (iv i)), (2, .int (iv wt))] := hl
  have hRf : 4 ≤ R0.frames := hRf
  have hRl : 91 ≤ R0.locals := hRl
  refine lv_aload_n (pc := 0) gX gB dM_order_0 rfl (lv_at hl 0 rfl) ?_
  refine lv_aload_n (pc := 1) gX gB dM_order_1 rfl (lv_at hl 0 rfl) ?_
  refine lv_iload_n (pc := 2) gX gB dM_order_2 rfl (lv_at hl 1 rfl) ?_
  refine lv_aload_n (pc := 3) gX gB dM_order_3 rfl (lv_at hl 0 rfl) ?_
  refine va_get (pc := 4) (D := (dC, dI)) (ci := 5) (v := .int (iv ln)) (C := RM) (T := TM) (N := 24) gX gB hw0 inM hown hK hP 0 rfl rfl 6 (by decide) (hw0 _ q657) (fun _ h9 => h9) rfl dM_order_4 ?_
  refine jv_ri (pc := 7) (wr := []) (wn := fun u : Int => (pM cI cZ cG cR ad th tb fi se lf ct ln tx kl kp fl fo ol ot pl ky nu yk yn lc fw sd lw od)) (va_runV (rest := [.ref (ad 0)]) ⟨gX, gB, hml, hown, hw0⟩ (c_M_noPlace l dC dI cI cZ cG cR ad th tb fi se lf ct ln tx kl kp fl fo ol ot pl ky nu yk yn lc fw sd lw od _ i ln (by omega) (by omega)) (jcV hw0 kM_noPlace q752 rfl rfl ⟨Nat.le_trans (Nat.le_of_ble_eq_true rfl) hRf, Nat.le_trans (Nat.le_of_ble_eq_true rfl) hRl⟩) (jv_preV (ci := 5) (q0 := 0) hK hP hD [0, 1, 2, 3, 4, 5, 6, 7, 8, 9, 10, 11, 12, 13, 14, 15, 16, 17, 18] rfl (by decide) rfl rfl) rfl rfl hl.1 rfl (lv_room (Nat.le_of_ble_eq_true rfl)) dM_order_7 ⟨Nat.zero_le _, Nat.zero_le _⟩) hP hD hS hA [0, 1, 2, 3, 4, 5, 6, 7, 8, 9, 10, 11, 12, 13, 14, 15, 16, 17, 18] [] [0, 1, 2, 3, 4, 5, 6, 7, 8, 9, 10, 11, 12, 13, 14, 15, 16, 17, 18] rfl rfl (by decide) (by decide) (by decide) (fun _ => rfl) (fun r0 u H locs hw7 hP hD hS => ?_)
  obtain ⟨r_7, hu⟩ : ∃ z, z = u := ⟨_, rfl⟩; subst hu
  obtain ⟨rfl, hw7⟩ := hw7
  refine jv_if_eq (pc := 10) (tgt := 17) gX gB dM_order_10 (by decide) (by omega) (fun h1 => ?_) (fun h1 => ?_)
  · skip
    refine lv_iconst (pc := 17) (v := iv 0) gX gB dM_order_17 rfl ?_
    refine jv_put (pc := 18) (D := (dC, dI)) (ci := 5) (v := .int (iv 0)) (ty := .int) (C := RM) (T := TM) (N := 24) (ws' := (pM cI cZ cG cR ad 0 tb fi se lf ct ln tx kl kp fl fo ol ot pl ky nu yk yn lc fw sd lw od)) gX gB hw0 inM tyM tyM_ok nmM hown hK hP hD hS 0 rfl rfl 0 (by decide) (hw0 _ q651) (fun _ h9 => h9) rfl (by decide +kernel) rfl rfl (Nat.le_of_ble_eq_true rfl) dM_order_18 rfl (fun H locs hP hD hS => ?_)
    refine lv_aload_n (pc := 21) gX gB dM_order_21 rfl (lv_at hl 0 rfl) ?_
    refine va_get (pc := 22) (D := (dC, dI)) (ci := 5) (v := .int (iv 0)) (C := RM) (T := TM) (N := 24) gX gB hw0 inM hown hK hP 0 rfl rfl 0 (by decide) (hw0 _ q651) (fun _ h9 => h9) rfl dM_order_22 ?_
    refine jv_if_eq (pc := 25) (tgt := 30) gX gB dM_order_25 (by decide) (by decide) (fun h2 => ?_) (fun h2 => ?_)
    rotate_left
    · exact absurd h2 (by decide)
    refine lv_aload_n (pc := 30) gX gB dM_order_30 rfl (lv_at hl 0 rfl) ?_
    refine lv_iload_n (pc := 31) gX gB dM_order_31 rfl (lv_at hl 2 rfl) ?_
    refine jv_rv (pc := 32) (wr := []) (wn := fun u : (Int → Int) × (Int → Int) => (pM cI cZ cG cR ad 0 tb fi se lf ct ln tx kl kp fl fo ol ot pl ky nu yk yn lc fw u.1 u.2 od)) (va_runV (rest := []) ⟨gX, gB, hml, hown, hw0⟩ (c_M_findLevels l dC dI cI cZ cG cR ad 0 tb fi se lf ct ln tx kl kp fl fo ol ot pl ky nu yk yn lc fw sd lw od _ wt (by omega) (by omega) (by omega) (by omega)) (jcV hw0 kM_findLevels q868 rfl rfl ⟨Nat.le_trans (Nat.le_of_ble_eq_true rfl) hRf, Nat.le_trans (Nat.le_of_ble_eq_true rfl) hRl⟩) (jv_preV (ci := 5) (q0 := 0) hK hP hD [0, 1, 2, 3, 4, 5, 6, 7, 8, 9, 10, 11, 12, 13, 14, 15, 16, 17, 18] rfl (by decide) rfl rfl) rfl rfl hl.1 rfl (lv_room (Nat.le_of_ble_eq_true rfl)) dM_order_32 ⟨Nat.zero_le _, Nat.zero_le _⟩) hP hD hS hA [0, 1, 2, 3, 4, 5, 6, 7, 8, 9, 10, 11, 12, 13, 14, 15, 16, 17, 18] [] [0, 1, 2, 3, 4, 5, 6, 7, 8, 9, 10, 11, 12, 13, 14, 15, 16, 17, 18] rfl rfl (by decide) (by decide) (by decide) (fun _ => rfl) (fun u H locs hw32 hP hD hS => ?_)
    obtain ⟨sd_32, lw_32⟩ := u
    dsimp only at hw32 hP hD
    refine lv_iconst (pc := 35) (v := iv 0) gX gB dM_order_35 rfl ?_
    refine lv_istore_n (pc := 36) (lv' := [(3, .int (iv 0)), (0, .ref (ad 0)), (1, .int (iv i)), (2, .int (iv wt))]) gX gB dM_order_36 rfl hl (by decide) rfl (fun ls hl => ?_)
    have cut37 : ∀ (n0 : Nat) (k : Int) (o1 : Int → Int) (ls : Array Slot) (H : Heap) (locs : List Loc), (0 ≤ k ∧ k ≤ ln) → (∀ j, 0 ≤ j → j < k → o1 j = j) → ((ln - k : Int).toNat < n0) → lv_has ls 6 [(0, .ref (ad 0)), (1, .int (iv i)), (3, .int (iv k))] → va_P (dC, dI) vwCl (pM cI cZ cG cR ad 0 tb fi se lf ct ln tx kl kp fl fo ol ot pl ky nu yk yn lc fw sd_32 lw_32 o1) H → va_D A0 (pM cI cZ cG cR ad 0 tb fi se lf ct ln tx kl kp fl fo ol ot pl ky nu yk yn lc fw sd_32 lw_32 o1) → va_S A0 s0.heap H locs → W p0 l e0 R0 s0 m0 a0 b0 t0 c0 H locs 0 0 Q0 (F0 m0 37 ls []) := by
      intro n0
      induction n0 with
      | zero => intro k o1 ls H locs hk ho1 hm hl hP hD hS; exact absurd hm (Nat.not_lt_zero _)
      | succ n0 ih37 =>
        intro k o1 ls H locs hk ho1 hm37 hl hP hD hS
        refine lv_iload_n (pc := 37) gX gB dM_order_37 rfl (lv_at hl 2 rfl) ?_
        refine lv_aload_n (pc := 38) gX gB dM_order_38 rfl (lv_at hl 0 rfl) ?_
        refine va_get (pc := 39) (D := (dC, dI)) (ci := 5) (v := .int (iv ln)) (C := RM) (T := TM) (N := 24) gX gB hw0 inM hown hK hP 0 rfl rfl 6 (by decide) (hw0 _ q657) (fun _ h9 => h9) rfl dM_order_39 ?_
        refine jv_icmp_ge (pc := 42) (tgt := 58) gX gB dM_order_42 (by decide) (by omega) (by omega) (fun h3 => ?_) (fun h3 => ?_)
        · skip
          refine lv_iconst (pc := 58) (v := iv 2) gX gB dM_order_58 rfl ?_
          refine lv_istore_n (pc := 59) (lv' := [(3, .int (iv 2)), (0, .ref (ad 0)), (1, .int (iv i))]) gX gB dM_order_59 rfl hl (by decide) rfl (fun ls hl => ?_)
          have cut60 : ∀ (n0 : Nat) (m : Int) (o2 : Int → Int) (ls : Array Slot) (H : Heap) (locs : List Loc), (0 ≤ m ∧ m ≤ 2) → (∀ j, 0 ≤ j → j < ln → o2 j = odm lw_32 ln m j) → ((m : Int).toNat < n0) → lv_has ls 6 [(0, .ref (ad 0)), (1, .int (iv i)), (3, .int (iv m))] → va_P (dC, dI) vwCl (pM cI cZ cG cR ad 0 tb fi se lf ct ln tx kl kp fl fo ol ot pl ky nu yk yn lc fw sd_32 lw_32 o2) H → va_D A0 (pM cI cZ cG cR ad 0 tb fi se lf ct ln tx kl kp fl fo ol ot pl ky nu yk yn lc fw sd_32 lw_32 o2) → va_S A0 s0.heap H locs → W p0 l e0 R0 s0 m0 a0 b0 t0 c0 H locs 0 0 Q0 (F0 m0 60 ls []) := by
            intro n0
            induction n0 with
            | zero => intro m o2 ls H locs hm ho2 hm hl hP hD hS; exact absurd hm (Nat.not_lt_zero _)
            | succ n0 ih60 =>
              intro m o2 ls H locs hm ho2 hm60 hl hP hD hS
              refine lv_iload_n (pc := 60) gX gB dM_order_60 rfl (lv_at hl 2 rfl) ?_
              refine jv_if_le (pc := 61) (tgt := 146) gX gB dM_order_61 (by decide) (by omega) (fun h4 => ?_) (fun h4 => ?_)
              · skip
                refine lv_aload_n (pc := 146) gX gB dM_order_146 rfl (lv_at hl 0 rfl) ?_
                refine va_get (pc := 147) (D := (dC, dI)) (ci := 5) (v := .ref (ad 23)) (C := RM) (T := TM) (N := 24) gX gB hw0 inM hown hK hP 0 rfl rfl 23 (by decide) (hw0 _ q674) (fun _ h9 => h9) rfl dM_order_147 ?_
                refine lv_iload_n (pc := 150) gX gB dM_order_150 rfl (lv_at hl 1 rfl) ?_
                refine jv_iald (pc := 151) gX gB hK hP 18 0 rfl rfl (by decide) (by omega) dM_order_151 ?_
                exact hret _ (o2 i, 0, sd_32, lw_32, o2) dM_order_152 ⟨rfl, by first | (dsimp only; refine Or.inr ⟨by omega, by omega, rfl, ?_⟩; rw [ho2 i (by omega) (by omega), show m = 0 by omega]; exact odm_congr (fun j a b => (hw32 j a b).1) (by omega) (by omega)) | (refine Or.inr ⟨by omega, by omega, rfl, ?_⟩; rw [ho2 i (by omega) (by omega), show m = 0 by omega]; exact odm_congr (fun j a b => (hw32 j a b).1) (by omega) (by omega))⟩ hP hD hS
              refine lv_iconst (pc := 64) (v := iv 0) gX gB dM_order_64 rfl ?_
              refine lv_istore (pc := 65) (lv' := [(4, .int (iv 0)), (0, .ref (ad 0)), (1, .int (iv i)), (3, .int (iv m))]) gX gB dM_order_65 hl (by decide) rfl (fun ls hl => ?_)
              have cut67 : ∀ (n0 : Nat) (k : Int) (o3 : Int → Int) (ls : Array Slot) (H : Heap) (locs : List Loc), (0 ≤ k ∧ k ≤ ln) → (RVS (pg m (fun j => lw_32 (odm lw_32 ln m j))) ln (odm lw_32 ln m) k o3) → (k = 0 ∨ (pg m (fun j => lw_32 (odm lw_32 ln m j))) (k - 1) = false ∨ (pg m (fun j => lw_32 (odm lw_32 ln m j))) k = false ∨ k = ln) → ((ln - k : Int).toNat < n0) → lv_has ls 6 [(0, .ref (ad 0)), (1, .int (iv i)), (3, .int (iv m)), (4, .int (iv k))] → va_P (dC, dI) vwCl (pM cI cZ cG cR ad 0 tb fi se lf ct ln tx kl kp fl fo ol ot pl ky nu yk yn lc fw sd_32 lw_32 o3) H → va_D A0 (pM cI cZ cG cR ad 0 tb fi se lf ct ln tx kl kp fl fo ol ot pl ky nu yk yn lc fw sd_32 lw_32 o3) → va_S A0 s0.heap H locs → W p0 l e0 R0 s0 m0 a0 b0 t0 c0 H locs 0 0 Q0 (F0 m0 67 ls []) := by
                intro n0
                induction n0 with
                | zero => intro k o3 ls H locs hk hR hbd hm hl hP hD hS; exact absurd hm (Nat.not_lt_zero _)
                | succ n0 ih67 =>
                  intro k o3 ls H locs hk hR hbd hm67 hl hP hD hS
                  refine lv_iload (pc := 67) gX gB dM_order_67 (lv_at hl 3 rfl) ?_
                  refine lv_aload_n (pc := 69) gX gB dM_order_69 rfl (lv_at hl 0 rfl) ?_
                  refine va_get (pc := 70) (D := (dC, dI)) (ci := 5) (v := .int (iv ln)) (C := RM) (T := TM) (N := 24) gX gB hw0 inM hown hK hP 0 rfl rfl 6 (by decide) (hw0 _ q657) (fun _ h9 => h9) rfl dM_order_70 ?_
                  refine jv_icmp_ge (pc := 73) (tgt := 140) gX gB dM_order_73 (by decide) (by omega) (by omega) (fun h5 => ?_) (fun h5 => ?_)
                  · skip
                    refine jv_idec (pc := 140) (k := 2) (x := m) (n := (-1)) (d := 1) (lv' := [(3, .int (iv (m - 1))), (0, .ref (ad 0)), (1, .int (iv i)), (4, .int (iv k))]) gX gB dM_order_140 (by decide) hl rfl (by decide) rfl (fun ls hl => ?_)
                    refine lv_goto (pc := 143) (tgt := 60) gX gB dM_order_143 (by decide) ?_
                    exact ih60 (m - 1) o3 _ _ _ (by omega) (by intro j a b; rw [hR.1 j a (by omega)]; exact odm_s (by omega) a b) (by omega) (lv_sub hl [1, 2, 0] rfl) hP hD hS
                  refine lv_iload (pc := 76) gX gB dM_order_76 (lv_at hl 3 rfl) ?_
                  refine lv_istore (pc := 78) (lv' := [(5, .int (iv k)), (0, .ref (ad 0)), (1, .int (iv i)), (3, .int (iv m)), (4, .int (iv k))]) gX gB dM_order_78 hl (by decide) rfl (fun ls hl => ?_)
                  have cut111 : ∀ (to : Int) (ls : Array Slot) (H : Heap) (locs : List Loc), (k ≤ to ∧ to ≤ ln) → (∀ j, k ≤ j → j < to → (pg m (fun j => lw_32 (odm lw_32 ln m j))) j = true) → (to = ln ∨ (pg m (fun j => lw_32 (odm lw_32 ln m j))) to = false) → lv_has ls 6 [(0, .ref (ad 0)), (1, .int (iv i)), (3, .int (iv m)), (4, .int (iv k)), (5, .int (iv to))] → va_P (dC, dI) vwCl (pM cI cZ cG cR ad 0 tb fi se lf ct ln tx kl kp fl fo ol ot pl ky nu yk yn lc fw sd_32 lw_32 o3) H → va_D A0 (pM cI cZ cG cR ad 0 tb fi se lf ct ln tx kl kp fl fo ol ot pl ky nu yk yn lc fw sd_32 lw_32 o3) → va_S A0 s0.heap H locs → W p0 l e0 R0 s0 m0 a0 b0 t0 c0 H locs 0 0 Q0 (F0 m0 111 ls []) := by
                    intro to ls H locs ht hrun hend hl hP hD hS
                    refine lv_aload_n (pc := 111) gX gB dM_order_111 rfl (lv_at hl 0 rfl) ?_
                    refine lv_iload (pc := 112) gX gB dM_order_112 (lv_at hl 3 rfl) ?_
                    refine lv_iload (pc := 114) gX gB dM_order_114 (lv_at hl 4 rfl) ?_
                    refine jv_rv (pc := 116) (wr := []) (wn := fun u : (Int → Int) => (pM cI cZ cG cR ad 0 tb fi se lf ct ln tx kl kp fl fo ol ot pl ky nu yk yn lc fw sd_32 lw_32 u)) (va_runV (rest := []) ⟨gX, gB, hml, hown, hw0⟩ (c_M_turnRound l dC dI cI cZ cG cR ad 0 tb fi se lf ct ln tx kl kp fl fo ol ot pl ky nu yk yn lc fw sd_32 lw_32 o3 _ k to (by omega)) (jcV hw0 kM_turnRound q904 rfl rfl ⟨Nat.le_trans (Nat.le_of_ble_eq_true rfl) hRf, Nat.le_trans (Nat.le_of_ble_eq_true rfl) hRl⟩) (jv_preV (ci := 5) (q0 := 0) hK hP hD [0, 1, 2, 3, 4, 5, 6, 7, 8, 9, 10, 11, 12, 13, 14, 15, 16, 17, 18] rfl (by decide) rfl rfl) rfl rfl hl.1 rfl (lv_room (Nat.le_of_ble_eq_true rfl)) dM_order_116 ⟨Nat.zero_le _, Nat.zero_le _⟩) hP hD hS hA [0, 1, 2, 3, 4, 5, 6, 7, 8, 9, 10, 11, 12, 13, 14, 15, 16, 17, 18] [] [0, 1, 2, 3, 4, 5, 6, 7, 8, 9, 10, 11, 12, 13, 14, 15, 16, 17, 18] rfl rfl (by decide) (by decide) (by decide) (fun _ => rfl) (fun u H locs hw116 hP hD hS => ?_)
                    obtain ⟨od_116, hu⟩ : ∃ z, z = u := ⟨_, rfl⟩; subst hu
                    have hS2 : k < to → RVS (pg m (fun j => lw_32 (odm lw_32 ln m j))) ln (odm lw_32 ln m) to od_116 := fun hlt => rvs_run hR (by omega) (by rcases hbd with z | z | z | z; exact Or.inl z; exact Or.inr (Or.inl z); exact Or.inr (Or.inr z); omega) hend (by omega) hrun hlt hw116
                    have hE2 : ¬ k < to → od_116 = o3 := fun hlt => by funext j; rw [hw116 j, if_neg (fun z => by omega)]
                    refine lv_iload (pc := 119) gX gB dM_order_119 (lv_at hl 4 rfl) ?_
                    refine lv_iload (pc := 121) gX gB dM_order_121 (lv_at hl 3 rfl) ?_
                    refine jv_icmp_le (pc := 123) (tgt := 131) gX gB dM_order_123 (by decide) (by omega) (by omega) (fun h6 => ?_) (fun h6 => ?_)
                    · skip
                      refine lv_iload (pc := 131) gX gB dM_order_131 (lv_at hl 3 rfl) ?_
                      refine lv_iconst (pc := 133) (v := iv 1) gX gB dM_order_133 rfl ?_
                      refine jv_iadd (pc := 134) (x := k) (y := 1) gX gB dM_order_134 ?_
                      refine lv_istore (pc := 135) (lv' := [(4, .int (iv (k + 1))), (0, .ref (ad 0)), (1, .int (iv i)), (3, .int (iv m)), (5, .int (iv to))]) gX gB dM_order_135 hl (by decide) rfl (fun ls hl => ?_)
                      refine lv_goto (pc := 137) (tgt := 67) gX gB dM_order_137 (by decide) ?_
                      exact ih67 (k + 1) od_116 _ _ _ (by omega) (by first | exact hS2 (by omega) | (rw [hE2 (by omega)]; exact rvs_one hR (by omega) (by omega) (by rcases hend with z | z; omega; (rw [show k = to by omega]; exact z)))) (by first | exact Or.inr (Or.inr (hend.elim Or.inr Or.inl)) | (refine Or.inr (Or.inl ?_); rw [show k + 1 - 1 = to by omega]; rcases hend with z | z; omega; exact z)) (by omega) (lv_sub hl [1, 2, 3, 0] rfl) hP hD hS
                    refine lv_iload (pc := 126) gX gB dM_order_126 (lv_at hl 4 rfl) ?_
                    refine lv_goto (pc := 128) (tgt := 135) gX gB dM_order_128 (by decide) ?_
                    refine lv_istore (pc := 135) (lv' := [(4, .int (iv to)), (0, .ref (ad 0)), (1, .int (iv i)), (3, .int (iv m)), (5, .int (iv to))]) gX gB dM_order_135 hl (by decide) rfl (fun ls hl => ?_)
                    refine lv_goto (pc := 137) (tgt := 67) gX gB dM_order_137 (by decide) ?_
                    exact ih67 to od_116 _ _ _ (by omega) (by first | exact hS2 (by omega) | (rw [hE2 (by omega)]; exact rvs_one hR (by omega) (by omega) (by rcases hend with z | z; omega; (rw [show k = to by omega]; exact z)))) (by first | exact Or.inr (Or.inr (hend.elim Or.inr Or.inl)) | (refine Or.inr (Or.inl ?_); rw [show k + 1 - 1 = to by omega]; rcases hend with z | z; omega; exact z)) (by omega) (lv_sub hl [1, 2, 3, 0] rfl) hP hD hS
                  have cut80 : ∀ (n0 : Nat) (to : Int) (ls : Array Slot) (H : Heap) (locs : List Loc), (k ≤ to ∧ to ≤ ln) → (∀ j, k ≤ j → j < to → (pg m (fun j => lw_32 (odm lw_32 ln m j))) j = true) → ((ln - to : Int).toNat < n0) → lv_has ls 6 [(0, .ref (ad 0)), (1, .int (iv i)), (3, .int (iv m)), (4, .int (iv k)), (5, .int (iv to))] → va_P (dC, dI) vwCl (pM cI cZ cG cR ad 0 tb fi se lf ct ln tx kl kp fl fo ol ot pl ky nu yk yn lc fw sd_32 lw_32 o3) H → va_D A0 (pM cI cZ cG cR ad 0 tb fi se lf ct ln tx kl kp fl fo ol ot pl ky nu yk yn lc fw sd_32 lw_32 o3) → va_S A0 s0.heap H locs → W p0 l e0 R0 s0 m0 a0 b0 t0 c0 H locs 0 0 Q0 (F0 m0 80 ls []) := by
                    intro n0
                    induction n0 with
                    | zero => intro to ls H locs ht hrun hm hl hP hD hS; exact absurd hm (Nat.not_lt_zero _)
                    | succ n0 ih80 =>
                      intro to ls H locs ht hrun hm80 hl hP hD hS
                      refine lv_iload (pc := 80) gX gB dM_order_80 (lv_at hl 4 rfl) ?_
                      refine lv_aload_n (pc := 82) gX gB dM_order_82 rfl (lv_at hl 0 rfl) ?_
                      refine va_get (pc := 83) (D := (dC, dI)) (ci := 5) (v := .int (iv ln)) (C := RM) (T := TM) (N := 24) gX gB hw0 inM hown hK hP 0 rfl rfl 6 (by decide) (hw0 _ q657) (fun _ h9 => h9) rfl dM_order_83 ?_
                      refine jv_icmp_ge (pc := 86) (tgt := 111) gX gB dM_order_86 (by decide) (by omega) (by omega) (fun h7 => ?_) (fun h7 => ?_)
                      · skip
                        exact cut111 to _ _ _ (by omega) (by exact hrun) (by exact Or.inl (by omega)) hl hP hD hS
                      have hor := odm_rng (L := lw_32) (m := m) (show 0 ≤ to by omega) (show to < ln by omega)
                      have ho := hR.2 to (by omega) (by omega)
                      rw [← ho] at hor
                      have hlr := hw32 (o3 to) (by omega) (by omega)
                      refine lv_aload_n (pc := 89) gX gB dM_order_89 rfl (lv_at hl 0 rfl) ?_
                      refine va_get (pc := 90) (D := (dC, dI)) (ci := 5) (v := .ref (ad 22)) (C := RM) (T := TM) (N := 24) gX gB hw0 inM hown hK hP 0 rfl rfl 22 (by decide) (hw0 _ q673) (fun _ h9 => h9) rfl dM_order_90 ?_
                      refine lv_aload_n (pc := 93) gX gB dM_order_93 rfl (lv_at hl 0 rfl) ?_
                      refine va_get (pc := 94) (D := (dC, dI)) (ci := 5) (v := .ref (ad 23)) (C := RM) (T := TM) (N := 24) gX gB hw0 inM hown hK hP 0 rfl rfl 23 (by decide) (hw0 _ q674) (fun _ h9 => h9) rfl dM_order_94 ?_
                      refine lv_iload (pc := 97) gX gB dM_order_97 (lv_at hl 4 rfl) ?_
                      refine jv_iald (pc := 99) gX gB hK hP 18 0 rfl rfl (by decide) (by omega) dM_order_99 ?_
                      refine jv_iald (pc := 100) gX gB hK hP 17 0 rfl rfl (by decide) (by omega) dM_order_100 ?_
                      refine lv_iload_n (pc := 101) gX gB dM_order_101 rfl (lv_at hl 2 rfl) ?_
                      refine jv_icmp_lt (pc := 102) (tgt := 111) gX gB dM_order_102 (by decide) (by omega) (by omega) (fun h8 => ?_) (fun h8 => ?_)
                      · skip
                        exact cut111 to _ _ _ (by omega) (by exact hrun) (by exact Or.inr (decide_eq_false (by show ¬ m ≤ lw_32 (odm lw_32 ln m to); rw [← ho]; omega))) hl hP hD hS
                      refine jv_iinc (pc := 105) (k := 4) (x := to) (n := 1) (lv' := [(5, .int (iv (to + 1))), (0, .ref (ad 0)), (1, .int (iv i)), (3, .int (iv m)), (4, .int (iv k))]) gX gB dM_order_105 hl rfl (by decide) rfl (fun ls hl => ?_)
                      refine lv_goto (pc := 108) (tgt := 80) gX gB dM_order_108 (by decide) ?_
                      exact ih80 (to + 1) _ _ _ (by omega) (by intro j a b; by_cases e : j = to; (rw [e]; exact decide_eq_true (by show m ≤ lw_32 (odm lw_32 ln m to); rw [← ho]; omega)); exact hrun j a (by omega)) (by omega) (lv_sub hl [1, 2, 3, 4, 0] rfl) hP hD hS
                  exact cut80 (((ln - k : Int).toNat) + 1) k _ _ _ (by omega) (by intro j a b; omega) (Nat.lt_succ_self _) (lv_sub hl [1, 2, 3, 4, 0] rfl) hP hD hS
              exact cut67 (((ln - 0 : Int).toNat) + 1) 0 o2 _ _ _ (by omega) (by exact ⟨fun j a b => by omega, fun j a b => ho2 j (by omega) b⟩) (by exact Or.inl rfl) (Nat.lt_succ_self _) (lv_sub hl [1, 2, 3, 0] rfl) hP hD hS
          exact cut60 (((2 : Int).toNat) + 1) 2 o1 _ _ _ (by omega) (by intro j a b; rw [ho1 j a (by omega)]; rfl) (Nat.lt_succ_self _) (lv_sub hl [1, 2, 0] rfl) hP hD hS
        refine lv_aload_n (pc := 45) gX gB dM_order_45 rfl (lv_at hl 0 rfl) ?_
        refine va_get (pc := 46) (D := (dC, dI)) (ci := 5) (v := .ref (ad 23)) (C := RM) (T := TM) (N := 24) gX gB hw0 inM hown hK hP 0 rfl rfl 23 (by decide) (hw0 _ q674) (fun _ h9 => h9) rfl dM_order_46 ?_
        refine lv_iload_n (pc := 49) gX gB dM_order_49 rfl (lv_at hl 2 rfl) ?_
        refine lv_iload_n (pc := 50) gX gB dM_order_50 rfl (lv_at hl 2 rfl) ?_
        refine jv_iast (pc := 51) (ws' := (pM cI cZ cG cR ad 0 tb fi se lf ct ln tx kl kp fl fo ol ot pl ky nu yk yn lc fw sd_32 lw_32 (uI o1 k k))) gX gB hK hP hD hS 18 0 rfl rfl (by decide) (by omega) dM_order_51 rfl (fun H locs hP hD hS => ?_)
        refine jv_iinc (pc := 52) (k := 2) (x := k) (n := 1) (lv' := [(3, .int (iv (k + 1))), (0, .ref (ad 0)), (1, .int (iv i))]) gX gB dM_order_52 hl rfl (by decide) rfl (fun ls hl => ?_)
        refine lv_goto (pc := 55) (tgt := 37) gX gB dM_order_55 (by decide) ?_
        exact ih37 (k + 1) (uI o1 k k) _ _ _ (by omega) (by intro j a b; by_cases e : j = k; (rw [uI_e e, e]); (rw [uI_n e]; exact ho1 j a (by omega))) (by omega) (lv_sub hl [1, 2, 0] rfl) hP hD hS
    exact cut37 (((ln - 0 : Int).toNat) + 1) 0 od _ _ _ (by omega) (by intro j a b; omega) (Nat.lt_succ_self _) (lv_sub hl [1, 2, 0] rfl) hP hD hS
  refine lv_iconst (pc := 13) (v := iv 1) gX gB dM_order_13 rfl ?_
  refine lv_goto (pc := 14) (tgt := 18) gX gB dM_order_14 (by decide) ?_
  refine jv_put (pc := 18) (D := (dC, dI)) (ci := 5) (v := .int (iv 1)) (ty := .int) (C := RM) (T := TM) (N := 24) (ws' := (pM cI cZ cG cR ad 1 tb fi se lf ct ln tx kl kp fl fo ol ot pl ky nu yk yn lc fw sd lw od)) gX gB hw0 inM tyM tyM_ok nmM hown hK hP hD hS 0 rfl rfl 0 (by decide) (hw0 _ q651) (fun _ h9 => h9) rfl (by decide +kernel) rfl rfl (Nat.le_of_ble_eq_true rfl) dM_order_18 rfl (fun H locs hP hD hS => ?_)
  refine lv_aload_n (pc := 21) gX gB dM_order_21 rfl (lv_at hl 0 rfl) ?_
  refine va_get (pc := 22) (D := (dC, dI)) (ci := 5) (v := .int (iv 1)) (C := RM) (T := TM) (N := 24) gX gB hw0 inM hown hK hP 0 rfl rfl 0 (by decide) (hw0 _ q651) (fun _ h9 => h9) rfl dM_order_22 ?_
  refine jv_if_eq (pc := 25) (tgt := 30) gX gB dM_order_25 (by decide) (by decide) (fun h9 => ?_) (fun h9 => ?_)
  · exact absurd h9 (by decide)
  refine lv_iconst (pc := 28) (v := iv 0) gX gB dM_order_28 rfl ?_
  exact hret _ (0, 1, sd, lw, od) dM_order_29 ⟨rfl, by first | (dsimp only; exact Or.inl ⟨by omega, rfl⟩) | (exact Or.inl ⟨by omega, rfl⟩)⟩ hP hD hS
