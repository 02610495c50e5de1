set_option maxRecDepth 100000 in
set_option maxHeartbeats 4000000 in
theorem c_M_neutrals (l : Launch) (dC : Nat → ClassId) (dI : Nat → Nat → Nat) (cI : ClassId) (cZ : ClassId) (cG : ClassId) (cR : ClassId) (ad : Nat → Nat) (th : Int) (tb : Int → Int) (fi : Int → Int) (se : Int → Int) (lf : Int → Int) (ct : Int → Int) (ln : Int) (tx : Int → Int) (kl : Int → Int) (kp : Int → Int) (fl : Int) (fo : Int → Int) (ol : Int) (ot : Int → Int) (pl : Int → Int) (ky : Int) (nu : Int → Int) (yk : Int) (yn : Int → Int) (lc : Int → Int) (fw : Int → Int) (sd : Int → Int) (lw : Int → Int) (od : Int → Int) (sz : Nat) (b : Int) (hl9 : 0 ≤ ln ∧ ln ≤ 40) (hb9 : b = 0 ∨ b = 1) (hB : BS ln sd) : Met l yM_neutrals wsM_neutrals ({ frames := 1, cells := 0, slots := 0, locals := 21 }) (va_Pc [.ref (ad 0), .int (iv b)] (jPre (dC, dI) (jT cI cZ cG cR) (pM cI cZ cG cR ad th tb fi se lf ct ln tx kl kp fl fo ol ot pl ky nu yk yn lc fw sd lw od) sz)) (va_Qv (fun u : (Int → Int) => EqR ln u (w8 b ln sd)) (fun u => jEnd (dC, dI) (jT cI cZ cG cR) (va_A (pM cI cZ cG cR ad th tb fi se lf ct ln tx kl kp fl fo ol ot pl ky nu yk yn lc fw sd lw od) sz) (pM cI cZ cG cR ad th tb fi se lf ct ln tx kl kp fl fo ol ot pl ky nu yk yn lc fw u lw od)) (va_A (pM cI cZ cG cR ad th tb fi se lf ct ln tx kl kp fl fo ol ot pl ky nu yk yn lc fw sd lw od) sz)) 0 0 (va_A (pM cI cZ cG cR ad th tb fi se lf ct ln tx kl kp fl fo ol ot pl ky nu yk yn lc fw sd lw od) sz) := by
  refine jv_mv (cc := cM_neutrals) (maxL := 7) (by decide) rfl (Nat.le_of_ble_eq_true rfl) ?_
  intro p0 e0 s0 m0 a0 b0 t0 c0 R0 Q0 A0 ls gX gB hts hown hml hRf hRl hA hK hret hl hP hD hS
  have hown : s0.vm.findClass "TextPipelineModel" = some m0.cls := hown
  have hw0 : ∀ w ∈ WS0, w.before a0 s0 = true := fun w h => hts w (List.mem_cons_of_mem _ h)
  have hl : lv_has ls 7 [(0, .ref (ad 0)), (1, .int (iv b))] := hl
  have hRf : 1 ≤ R0.frames := hRf
  have hRl : 21 ≤ R0.locals := hRl
  have hB8 := BS_8 hl9.1 hb9 hB
  have hK1 : ¬ 8 < sd (ln + 1) := by have := hB.2.1; omega
  have hK0 : ¬ 8 < sd 0 := by have := hB.1; omega
  refine lv_iconst (pc := 0) (v := iv 1) gX gB dM_neutrals_0 rfl ?_
  refine lv_istore_n (pc := 1) (lv' := [(2, .int (iv 1)), (0, .ref (ad 0)), (1, .int (iv b))]) gX gB dM_neutrals_1 rfl hl (by decide) rfl (fun ls hl => ?_)
  have cut2 : ∀ (n0 : Nat) (i : Int) (f : Int → Int) (ls : Array Slot) (H : Heap) (locs : List Loc), (1 ≤ i ∧ i ≤ ln + 1) → (STG ln (w8 b ln sd) sd i f) → (RGK ln f) → (¬ 8 < sd (i - 1) ∨ ¬ 8 < sd i) → ((ln + 1 - i : Int).toNat < n0) → lv_has ls 7 [(0, .ref (ad 0)), (1, .int (iv b)), (2, .int (iv i))] → va_P (dC, dI) vwCl (pM cI cZ cG cR ad th tb fi se lf ct ln tx kl kp fl fo ol ot pl ky nu yk yn lc fw f lw od) H → va_D A0 (pM cI cZ cG cR ad th tb fi se lf ct ln tx kl kp fl fo ol ot pl ky nu yk yn lc fw f lw od) → va_S A0 s0.heap H locs → W p0 l e0 R0 s0 m0 a0 b0 t0 c0 H locs 0 0 Q0 (F0 m0 2 ls []) := by
    intro n0
    induction n0 with
    | zero => intro i f ls H locs hi hg hr9 hbd hm hl hP hD hS; exact absurd hm (Nat.not_lt_zero _)
    | succ n0 ih2 =>
      intro i f ls H locs hi hg hr9 hbd hm2 hl hP hD hS
      refine lv_iload_n (pc := 2) gX gB dM_neutrals_2 rfl (lv_at hl 2 rfl) ?_
      refine lv_aload_n (pc := 3) gX gB dM_neutrals_3 rfl (lv_at hl 0 rfl) ?_
      refine va_get (pc := 4) (D := (dC, dI)) (ci := 5) (v := .int (iv ln)) (C := RM) (T := TM) (N := 24) gX gB hw0 inM hown hK hP 0 rfl rfl 6 (by decide) (hw0 _ q657) (fun _ h9 => h9) rfl dM_neutrals_4 ?_
      refine jv_icmp_gt (pc := 7) (tgt := 150) gX gB dM_neutrals_7 (by decide) (by omega) (by omega) (fun h1 => ?_) (fun h1 => ?_)
      · skip
        exact hret (f) dM_neutrals_150 (by exact stg_end hg (by omega) hB8.2.1) hP hD hS
      refine lv_iload_n (pc := 10) gX gB dM_neutrals_10 rfl (lv_at hl 2 rfl) ?_
      refine lv_istore_n (pc := 11) (lv' := [(3, .int (iv i)), (0, .ref (ad 0)), (1, .int (iv b)), (2, .int (iv i))]) gX gB dM_neutrals_11 rfl hl (by decide) rfl (fun ls hl => ?_)
      have cut39 : ∀ (to : Int) (ls : Array Slot) (H : Heap) (locs : List Loc), (i ≤ to ∧ to ≤ ln + 1) → (∀ j, i ≤ j → j < to → 8 < sd j) → (¬ 8 < sd to) → lv_has ls 7 [(0, .ref (ad 0)), (1, .int (iv b)), (2, .int (iv i)), (3, .int (iv to))] → va_P (dC, dI) vwCl (pM cI cZ cG cR ad th tb fi se lf ct ln tx kl kp fl fo ol ot pl ky nu yk yn lc fw f lw od) H → va_D A0 (pM cI cZ cG cR ad th tb fi se lf ct ln tx kl kp fl fo ol ot pl ky nu yk yn lc fw f lw od) → va_S A0 s0.heap H locs → W p0 l e0 R0 s0 m0 a0 b0 t0 c0 H locs 0 0 Q0 (F0 m0 39 ls []) := by
        intro to ls H locs ht hrun hne hl hP hD hS
        have hrt := hr9 to (by omega) (by omega)
        have hr1 := hr9 (i - 1) (by omega) (by omega)
        have hft := hg.2 to (by omega) (by omega)
        have cut64 : ∀ (le : Int) (ls : Array Slot) (H : Heap) (locs : List Loc), ((le = 1 ∧ f (i - 1) = 0 ∧ f to = 0) ∨ (le = 0 ∧ ¬ (f (i - 1) = 0 ∧ f to = 0))) → lv_has ls 7 [(0, .ref (ad 0)), (1, .int (iv b)), (2, .int (iv i)), (3, .int (iv to))] → va_P (dC, dI) vwCl (pM cI cZ cG cR ad th tb fi se lf ct ln tx kl kp fl fo ol ot pl ky nu yk yn lc fw f lw od) H → va_D A0 (pM cI cZ cG cR ad th tb fi se lf ct ln tx kl kp fl fo ol ot pl ky nu yk yn lc fw f lw od) → va_S A0 s0.heap H locs → W p0 l e0 R0 s0 m0 a0 b0 t0 c0 H locs 0 0 Q0 (F0 m0 64 ls [.int (iv le)]) := by
          intro le ls H locs hle hl hP hD hS
          refine lv_istore (pc := 64) (lv' := [(4, .int (iv le)), (0, .ref (ad 0)), (1, .int (iv b)), (2, .int (iv i)), (3, .int (iv to))]) gX gB dM_neutrals_64 hl (by decide) rfl (fun ls hl => ?_)
          have rgl : -2147483648 ≤ le ∧ le < 2147483648 := by rcases hle with z | z <;> (rw [z.1]; decide)
          have cut91 : ∀ (ri : Int) (ls : Array Slot) (H : Heap) (locs : List Loc), ((ri = 1 ∧ 0 < f (i - 1) ∧ 0 < f to) ∨ (ri = 0 ∧ ¬ (0 < f (i - 1) ∧ 0 < f to))) → lv_has ls 7 [(0, .ref (ad 0)), (1, .int (iv b)), (2, .int (iv i)), (3, .int (iv to)), (4, .int (iv le))] → va_P (dC, dI) vwCl (pM cI cZ cG cR ad th tb fi se lf ct ln tx kl kp fl fo ol ot pl ky nu yk yn lc fw f lw od) H → va_D A0 (pM cI cZ cG cR ad th tb fi se lf ct ln tx kl kp fl fo ol ot pl ky nu yk yn lc fw f lw od) → va_S A0 s0.heap H locs → W p0 l e0 R0 s0 m0 a0 b0 t0 c0 H locs 0 0 Q0 (F0 m0 91 ls [.int (iv ri)]) := by
            intro ri ls H locs hri hl hP hD hS
            refine lv_istore (pc := 91) (lv' := [(5, .int (iv ri)), (0, .ref (ad 0)), (1, .int (iv b)), (2, .int (iv i)), (3, .int (iv to)), (4, .int (iv le))]) gX gB dM_neutrals_91 hl (by decide) rfl (fun ls hl => ?_)
            have rgr : -2147483648 ≤ ri ∧ ri < 2147483648 := by rcases hri with z | z <;> (rw [z.1]; decide)
            obtain ⟨vv, evv⟩ : ∃ z : Int, z = (if f (i - 1) = 0 ∧ f to = 0 then 0 else if 0 < f (i - 1) ∧ 0 < f to then 1 else b) := ⟨_, rfl⟩
            have hvr : 0 ≤ vv ∧ vv ≤ 11 := by rw [evv]; clear hle hri hbd; split; omega; split; omega; omega
            refine lv_iload_n (pc := 93) gX gB dM_neutrals_93 rfl (lv_at hl 3 rfl) ?_
            refine lv_istore (pc := 94) (lv' := [(6, .int (iv i)), (5, .int (iv ri)), (0, .ref (ad 0)), (1, .int (iv b)), (2, .int (iv i)), (3, .int (iv to)), (4, .int (iv le))]) gX gB dM_neutrals_94 hl (by decide) rfl (fun ls hl => ?_)
            have cut96 : ∀ (n0 : Nat) (k : Int) (g : Int → Int) (ls : Array Slot) (H : Heap) (locs : List Loc), (i ≤ k ∧ k ≤ to) → (∀ j, g j = if i ≤ j ∧ j < k then vv else f j) → ((to - k : Int).toNat < n0) → lv_has ls 7 [(0, .ref (ad 0)), (1, .int (iv b)), (2, .int (iv i)), (3, .int (iv to)), (4, .int (iv le)), (5, .int (iv ri)), (6, .int (iv k))] → va_P (dC, dI) vwCl (pM cI cZ cG cR ad th tb fi se lf ct ln tx kl kp fl fo ol ot pl ky nu yk yn lc fw g lw od) H → va_D A0 (pM cI cZ cG cR ad th tb fi se lf ct ln tx kl kp fl fo ol ot pl ky nu yk yn lc fw g lw od) → va_S A0 s0.heap H locs → W p0 l e0 R0 s0 m0 a0 b0 t0 c0 H locs 0 0 Q0 (F0 m0 96 ls []) := by
              intro n0
              induction n0 with
              | zero => intro k g ls H locs hk hgg hm hl hP hD hS; exact absurd hm (Nat.not_lt_zero _)
              | succ n0 ih96 =>
                intro k g ls H locs hk hgg hm96 hl hP hD hS
                refine lv_iload (pc := 96) gX gB dM_neutrals_96 (lv_at hl 6 rfl) ?_
                refine lv_iload_n (pc := 98) gX gB dM_neutrals_98 rfl (lv_at hl 3 rfl) ?_
                refine jv_icmp_ge (pc := 99) (tgt := 134) gX gB dM_neutrals_99 (by decide) (by omega) (by omega) (fun h2 => ?_) (fun h2 => ?_)
                · skip
                  have hG : ∀ j, g j = if i ≤ j ∧ j < to then vv else f j := fun j => by rw [hgg j, show k = to by omega]
                  have hR2 : RGK ln g := fun j x y => by rw [hG j]; split; exact hvr; exact hr9 j x y
                  have hS2 : i < to → STG ln (w8 b ln sd) sd to g := fun hlt => nq_end hg (by omega) (by omega) (by rcases hbd with z | z; exact z; exact absurd (hrun i (by omega) hlt) z) hne hrun evv hlt hG
                  have hE2 : ¬ i < to → g = f := fun hlt => by funext j; rw [hG j, if_neg (fun z => by omega)]
                  refine lv_iload_n (pc := 134) gX gB dM_neutrals_134 rfl (lv_at hl 3 rfl) ?_
                  refine lv_iload_n (pc := 135) gX gB dM_neutrals_135 rfl (lv_at hl 2 rfl) ?_
                  refine jv_icmp_le (pc := 136) (tgt := 143) gX gB dM_neutrals_136 (by decide) (by omega) (by omega) (fun h3 => ?_) (fun h3 => ?_)
                  · skip
                    refine lv_iload_n (pc := 143) gX gB dM_neutrals_143 rfl (lv_at hl 2 rfl) ?_
                    refine lv_iconst (pc := 144) (v := iv 1) gX gB dM_neutrals_144 rfl ?_
                    refine jv_iadd (pc := 145) (x := i) (y := 1) gX gB dM_neutrals_145 ?_
                    refine lv_istore_n (pc := 146) (lv' := [(2, .int (iv (i + 1))), (0, .ref (ad 0)), (1, .int (iv b)), (3, .int (iv to)), (4, .int (iv le)), (5, .int (iv ri)), (6, .int (iv k))]) gX gB dM_neutrals_146 rfl hl (by decide) rfl (fun ls hl => ?_)
                    refine lv_goto (pc := 147) (tgt := 2) gX gB dM_neutrals_147 (by decide) ?_
                    exact ih2 (i + 1) g _ _ _ (by omega) (by first | exact hS2 (by omega) | (rw [hE2 (by omega)]; have q : f = uI f i (f i) := (by funext j; by_cases e : j = i; (rw [uI_e e, e]); (rw [uI_n e])); rw [q]; refine stg_up hg ?_; rw [hg.2 i (by omega) (by omega)]; unfold w8; rw [if_neg (fun z => by rw [show to = i by omega] at hne; exact hne z)])) (by exact hR2) (by first | exact Or.inr hne | (rw [show i + 1 - 1 = i by omega]; left; rw [show i = to by omega]; exact hne)) (by omega) (lv_sub hl [1, 2, 0] rfl) hP hD hS
                  refine lv_iload_n (pc := 139) gX gB dM_neutrals_139 rfl (lv_at hl 3 rfl) ?_
                  refine lv_goto (pc := 140) (tgt := 146) gX gB dM_neutrals_140 (by decide) ?_
                  refine lv_istore_n (pc := 146) (lv' := [(2, .int (iv to)), (0, .ref (ad 0)), (1, .int (iv b)), (3, .int (iv to)), (4, .int (iv le)), (5, .int (iv ri)), (6, .int (iv k))]) gX gB dM_neutrals_146 rfl hl (by decide) rfl (fun ls hl => ?_)
                  refine lv_goto (pc := 147) (tgt := 2) gX gB dM_neutrals_147 (by decide) ?_
                  exact ih2 to g _ _ _ (by omega) (by first | exact hS2 (by omega) | (rw [hE2 (by omega)]; have q : f = uI f i (f i) := (by funext j; by_cases e : j = i; (rw [uI_e e, e]); (rw [uI_n e])); rw [q]; refine stg_up hg ?_; rw [hg.2 i (by omega) (by omega)]; unfold w8; rw [if_neg (fun z => by rw [show to = i by omega] at hne; exact hne z)])) (by exact hR2) (by first | exact Or.inr hne | (rw [show i + 1 - 1 = i by omega]; left; rw [show i = to by omega]; exact hne)) (by omega) (lv_sub hl [1, 2, 0] rfl) hP hD hS
                refine lv_aload_n (pc := 102) gX gB dM_neutrals_102 rfl (lv_at hl 0 rfl) ?_
                refine va_get (pc := 103) (D := (dC, dI)) (ci := 5) (v := .ref (ad 21)) (C := RM) (T := TM) (N := 24) gX gB hw0 inM hown hK hP 0 rfl rfl 21 (by decide) (hw0 _ q672) (fun _ h9 => h9) rfl dM_neutrals_103 ?_
                refine lv_iload (pc := 106) gX gB dM_neutrals_106 (lv_at hl 6 rfl) ?_
                have cut127 : ∀ (v : Int) (ls : Array Slot) (H : Heap) (locs : List Loc), (v = vv) → lv_has ls 7 [(0, .ref (ad 0)), (1, .int (iv b)), (2, .int (iv i)), (3, .int (iv to)), (4, .int (iv le)), (5, .int (iv ri)), (6, .int (iv k))] → va_P (dC, dI) vwCl (pM cI cZ cG cR ad th tb fi se lf ct ln tx kl kp fl fo ol ot pl ky nu yk yn lc fw g lw od) H → va_D A0 (pM cI cZ cG cR ad th tb fi se lf ct ln tx kl kp fl fo ol ot pl ky nu yk yn lc fw g lw od) → va_S A0 s0.heap H locs → W p0 l e0 R0 s0 m0 a0 b0 t0 c0 H locs 0 0 Q0 (F0 m0 127 ls [.int (iv v), .int (iv k), .ref (ad 21)]) := by
                  intro v ls H locs hv9 hl hP hD hS
                  refine jv_iast (pc := 127) (ws' := (pM cI cZ cG cR ad th tb fi se lf ct ln tx kl kp fl fo ol ot pl ky nu yk yn lc fw (uI g k v) lw od)) gX gB hK hP hD hS 16 0 rfl rfl (by decide) (by omega) dM_neutrals_127 rfl (fun H locs hP hD hS => ?_)
                  refine jv_iinc (pc := 128) (k := 6) (x := k) (n := 1) (lv' := [(6, .int (iv (k + 1))), (0, .ref (ad 0)), (1, .int (iv b)), (2, .int (iv i)), (3, .int (iv to)), (4, .int (iv le)), (5, .int (iv ri))]) gX gB dM_neutrals_128 hl rfl (by decide) rfl (fun ls hl => ?_)
                  refine lv_goto (pc := 131) (tgt := 96) gX gB dM_neutrals_131 (by decide) ?_
                  exact ih96 (k + 1) (uI g k v) _ _ _ (by omega) (by intro j; by_cases e : j = k; (rw [uI_e e, if_pos ⟨by omega, by omega⟩]; exact hv9); (rw [uI_n e, hgg j]; by_cases c : i ≤ j ∧ j < k; (rw [if_pos c, if_pos ⟨c.1, by omega⟩]); (rw [if_neg c, if_neg (fun z => c ⟨z.1, by omega⟩)]))) (by omega) (lv_sub hl [1, 2, 3, 4, 5, 6, 0] rfl) hP hD hS
                refine lv_iload (pc := 108) gX gB dM_neutrals_108 (lv_at hl 4 rfl) ?_
                refine jv_if_eq (pc := 110) (tgt := 117) gX gB dM_neutrals_110 (by decide) rgl (fun h4 => ?_) (fun h4 => ?_)
                · skip
                  refine lv_iload (pc := 117) gX gB dM_neutrals_117 (lv_at hl 5 rfl) ?_
                  refine jv_if_eq (pc := 119) (tgt := 126) gX gB dM_neutrals_119 (by decide) rgr (fun h5 => ?_) (fun h5 => ?_)
                  · skip
                    refine lv_iload_n (pc := 126) gX gB dM_neutrals_126 rfl (lv_at hl 1 rfl) ?_
                    exact cut127 b _ _ _ (by rw [evv, if_neg (by rcases hle with z | z; (exact absurd z.1 (by omega)); exact z.2), if_neg (by rcases hri with z | z; (exact absurd z.1 (by omega)); exact z.2)]) hl hP hD hS
                  refine lv_iconst (pc := 122) (v := iv 1) gX gB dM_neutrals_122 rfl ?_
                  refine lv_goto (pc := 123) (tgt := 127) gX gB dM_neutrals_123 (by decide) ?_
                  exact cut127 1 _ _ _ (by rw [evv, if_neg (by rcases hle with z | z; (exact absurd z.1 (by omega)); exact z.2), if_pos (by rcases hri with z | z; exact z.2; exact absurd z.1 (by assumption))]) hl hP hD hS
                refine lv_iconst (pc := 113) (v := iv 0) gX gB dM_neutrals_113 rfl ?_
                refine lv_goto (pc := 114) (tgt := 127) gX gB dM_neutrals_114 (by decide) ?_
                exact cut127 0 _ _ _ (by rw [evv, if_pos (by rcases hle with z | z; exact z.2; exact absurd z.1 (by assumption))]) hl hP hD hS
            exact cut96 (((to - i : Int).toNat) + 1) i f _ _ _ (by omega) (by intro j; rw [if_neg (fun z => by omega)]) (Nat.lt_succ_self _) (lv_sub hl [2, 3, 4, 5, 6, 1, 0] rfl) hP hD hS
          refine lv_aload_n (pc := 66) gX gB dM_neutrals_66 rfl (lv_at hl 1 rfl) ?_
          refine va_get (pc := 67) (D := (dC, dI)) (ci := 5) (v := .ref (ad 21)) (C := RM) (T := TM) (N := 24) gX gB hw0 inM hown hK hP 0 rfl rfl 21 (by decide) (hw0 _ q672) (fun _ h9 => h9) rfl dM_neutrals_67 ?_
          refine lv_iload_n (pc := 70) gX gB dM_neutrals_70 rfl (lv_at hl 3 rfl) ?_
          refine lv_iconst (pc := 71) (v := iv 1) gX gB dM_neutrals_71 rfl ?_
          refine jv_isub (pc := 72) (x := i) (y := 1) gX gB dM_neutrals_72 ?_
          refine jv_iald (pc := 73) gX gB hK hP 16 0 rfl rfl (by decide) (by omega) dM_neutrals_73 ?_
          refine jv_if_le (pc := 74) (tgt := 90) gX gB dM_neutrals_74 (by decide) (by omega) (fun h6 => ?_) (fun h6 => ?_)
          · skip
            refine lv_iconst (pc := 90) (v := iv 0) gX gB dM_neutrals_90 rfl ?_
            exact cut91 0 _ _ _ (by exact Or.inr ⟨rfl, fun h => by clear hle hbd; omega⟩) (lv_sub hl [1, 2, 3, 4, 0] rfl) hP hD hS
          refine lv_aload_n (pc := 77) gX gB dM_neutrals_77 rfl (lv_at hl 1 rfl) ?_
          refine va_get (pc := 78) (D := (dC, dI)) (ci := 5) (v := .ref (ad 21)) (C := RM) (T := TM) (N := 24) gX gB hw0 inM hown hK hP 0 rfl rfl 21 (by decide) (hw0 _ q672) (fun _ h9 => h9) rfl dM_neutrals_78 ?_
          refine lv_iload_n (pc := 81) gX gB dM_neutrals_81 rfl (lv_at hl 4 rfl) ?_
          refine jv_iald (pc := 82) gX gB hK hP 16 0 rfl rfl (by decide) (by omega) dM_neutrals_82 ?_
          refine jv_if_le (pc := 83) (tgt := 90) gX gB dM_neutrals_83 (by decide) (by omega) (fun h7 => ?_) (fun h7 => ?_)
          · skip
            refine lv_iconst (pc := 90) (v := iv 0) gX gB dM_neutrals_90 rfl ?_
            exact cut91 0 _ _ _ (by exact Or.inr ⟨rfl, fun h => by clear hle hbd; omega⟩) (lv_sub hl [1, 2, 3, 4, 0] rfl) hP hD hS
          refine lv_iconst (pc := 86) (v := iv 1) gX gB dM_neutrals_86 rfl ?_
          refine lv_goto (pc := 87) (tgt := 91) gX gB dM_neutrals_87 (by decide) ?_
          exact cut91 1 _ _ _ (by exact Or.inl ⟨rfl, by assumption, by assumption⟩) (lv_sub hl [1, 2, 3, 4, 0] rfl) hP hD hS
        refine lv_aload_n (pc := 39) gX gB dM_neutrals_39 rfl (lv_at hl 0 rfl) ?_
        refine va_get (pc := 40) (D := (dC, dI)) (ci := 5) (v := .ref (ad 21)) (C := RM) (T := TM) (N := 24) gX gB hw0 inM hown hK hP 0 rfl rfl 21 (by decide) (hw0 _ q672) (fun _ h9 => h9) rfl dM_neutrals_40 ?_
        refine lv_iload_n (pc := 43) gX gB dM_neutrals_43 rfl (lv_at hl 2 rfl) ?_
        refine lv_iconst (pc := 44) (v := iv 1) gX gB dM_neutrals_44 rfl ?_
        refine jv_isub (pc := 45) (x := i) (y := 1) gX gB dM_neutrals_45 ?_
        refine jv_iald (pc := 46) gX gB hK hP 16 0 rfl rfl (by decide) (by omega) dM_neutrals_46 ?_
        refine jv_if_ne (pc := 47) (tgt := 63) gX gB dM_neutrals_47 (by decide) (by omega) (fun h8 => ?_) (fun h8 => ?_)
        · skip
          refine lv_iconst (pc := 63) (v := iv 0) gX gB dM_neutrals_63 rfl ?_
          exact cut64 0 _ _ _ (by exact Or.inr ⟨rfl, fun h => by first | exact absurd h.1 (by assumption) | exact absurd h.2 (by assumption)⟩) hl hP hD hS
        refine lv_aload_n (pc := 50) gX gB dM_neutrals_50 rfl (lv_at hl 0 rfl) ?_
        refine va_get (pc := 51) (D := (dC, dI)) (ci := 5) (v := .ref (ad 21)) (C := RM) (T := TM) (N := 24) gX gB hw0 inM hown hK hP 0 rfl rfl 21 (by decide) (hw0 _ q672) (fun _ h9 => h9) rfl dM_neutrals_51 ?_
        refine lv_iload_n (pc := 54) gX gB dM_neutrals_54 rfl (lv_at hl 3 rfl) ?_
        refine jv_iald (pc := 55) gX gB hK hP 16 0 rfl rfl (by decide) (by omega) dM_neutrals_55 ?_
        refine jv_if_ne (pc := 56) (tgt := 63) gX gB dM_neutrals_56 (by decide) (by omega) (fun h9 => ?_) (fun h9 => ?_)
        · skip
          refine lv_iconst (pc := 63) (v := iv 0) gX gB dM_neutrals_63 rfl ?_
          exact cut64 0 _ _ _ (by exact Or.inr ⟨rfl, fun h => by first | exact absurd h.1 (by assumption) | exact absurd h.2 (by assumption)⟩) hl hP hD hS
        refine lv_iconst (pc := 59) (v := iv 1) gX gB dM_neutrals_59 rfl ?_
        refine lv_goto (pc := 60) (tgt := 64) gX gB dM_neutrals_60 (by decide) ?_
        exact cut64 1 _ _ _ (by exact Or.inl ⟨rfl, by assumption, by assumption⟩) hl hP hD hS
      have cut12 : ∀ (n0 : Nat) (to : Int) (ls : Array Slot) (H : Heap) (locs : List Loc), (i ≤ to ∧ to ≤ ln + 1) → (∀ j, i ≤ j → j < to → 8 < sd j) → ((ln + 1 - to : Int).toNat < n0) → lv_has ls 7 [(0, .ref (ad 0)), (1, .int (iv b)), (2, .int (iv i)), (3, .int (iv to))] → va_P (dC, dI) vwCl (pM cI cZ cG cR ad th tb fi se lf ct ln tx kl kp fl fo ol ot pl ky nu yk yn lc fw f lw od) H → va_D A0 (pM cI cZ cG cR ad th tb fi se lf ct ln tx kl kp fl fo ol ot pl ky nu yk yn lc fw f lw od) → va_S A0 s0.heap H locs → W p0 l e0 R0 s0 m0 a0 b0 t0 c0 H locs 0 0 Q0 (F0 m0 12 ls []) := by
        intro n0
        induction n0 with
        | zero => intro to ls H locs ht hrun hm hl hP hD hS; exact absurd hm (Nat.not_lt_zero _)
        | succ n0 ih12 =>
          intro to ls H locs ht hrun hm12 hl hP hD hS
          refine lv_iload_n (pc := 12) gX gB dM_neutrals_12 rfl (lv_at hl 3 rfl) ?_
          refine lv_aload_n (pc := 13) gX gB dM_neutrals_13 rfl (lv_at hl 0 rfl) ?_
          refine va_get (pc := 14) (D := (dC, dI)) (ci := 5) (v := .int (iv ln)) (C := RM) (T := TM) (N := 24) gX gB hw0 inM hown hK hP 0 rfl rfl 6 (by decide) (hw0 _ q657) (fun _ h9 => h9) rfl dM_neutrals_14 ?_
          refine jv_icmp_gt (pc := 17) (tgt := 39) gX gB dM_neutrals_17 (by decide) (by omega) (by omega) (fun h10 => ?_) (fun h10 => ?_)
          · skip
            exact cut39 to _ _ _ (by omega) (by exact hrun) (by rw [show to = ln + 1 by omega]; exact hK1) hl hP hD hS
          have hrt := hr9 to (by omega) (by omega)
          have hft := hg.2 to (by omega) (by omega)
          refine lv_aload_n (pc := 20) gX gB dM_neutrals_20 rfl (lv_at hl 0 rfl) ?_
          refine lv_aload_n (pc := 21) gX gB dM_neutrals_21 rfl (lv_at hl 0 rfl) ?_
          refine va_get (pc := 22) (D := (dC, dI)) (ci := 5) (v := .ref (ad 21)) (C := RM) (T := TM) (N := 24) gX gB hw0 inM hown hK hP 0 rfl rfl 21 (by decide) (hw0 _ q672) (fun _ h9 => h9) rfl dM_neutrals_22 ?_
          refine lv_iload_n (pc := 25) gX gB dM_neutrals_25 rfl (lv_at hl 3 rfl) ?_
          refine jv_iald (pc := 26) gX gB hK hP 16 0 rfl rfl (by decide) (by omega) dM_neutrals_26 ?_
          refine jv_ri (pc := 27) (wr := []) (wn := fun u : Int => (pM cI cZ cG cR ad th tb fi se lf ct ln tx kl kp fl fo ol ot pl ky nu yk yn lc fw f lw od)) (va_runV (rest := []) ⟨gX, gB, hml, hown, hw0⟩ (c_M_neutral l dC dI cI cZ cG cR ad th tb fi se lf ct ln tx kl kp fl fo ol ot pl ky nu yk yn lc fw f lw od _ (f to) (by omega)) (jcV hw0 kM_neutral q896 rfl rfl ⟨Nat.le_trans (Nat.le_of_ble_eq_true rfl) hRf, Nat.le_trans (Nat.le_of_ble_eq_true rfl) hRl⟩) (jv_preV (ci := 5) (q0 := 0) hK hP hD [0, 1, 2, 3, 4, 5, 6, 7, 8, 9, 10, 11, 12, 13, 14, 15, 16, 17, 18] rfl (by decide) rfl rfl) rfl rfl hl.1 rfl (lv_room (Nat.le_of_ble_eq_true rfl)) dM_neutrals_27 ⟨Nat.zero_le _, Nat.zero_le _⟩) hP hD hS hA [0, 1, 2, 3, 4, 5, 6, 7, 8, 9, 10, 11, 12, 13, 14, 15, 16, 17, 18] [] [0, 1, 2, 3, 4, 5, 6, 7, 8, 9, 10, 11, 12, 13, 14, 15, 16, 17, 18] rfl rfl (by decide) (by decide) (by decide) (fun _ => rfl) (fun r0 u H locs hw27 hP hD hS => ?_)
          obtain ⟨r_27, hu⟩ : ∃ z, z = u := ⟨_, rfl⟩; subst hu
          obtain ⟨rfl, hw27⟩ := hw27
          refine jv_if_eq (pc := 30) (tgt := 39) gX gB dM_neutrals_30 (by decide) (by omega) (fun h11 => ?_) (fun h11 => ?_)
          · skip
            exact cut39 to _ _ _ (by omega) (by exact hrun) (by rw [← hft]; omega) hl hP hD hS
          refine jv_iinc (pc := 33) (k := 3) (x := to) (n := 1) (lv' := [(3, .int (iv (to + 1))), (0, .ref (ad 0)), (1, .int (iv b)), (2, .int (iv i))]) gX gB dM_neutrals_33 hl rfl (by decide) rfl (fun ls hl => ?_)
          refine lv_goto (pc := 36) (tgt := 12) gX gB dM_neutrals_36 (by decide) ?_
          exact ih12 (to + 1) _ _ _ (by omega) (by intro j x y; by_cases e : j = to; (rw [e, ← hft]; omega); exact hrun j x (by omega)) (by omega) (lv_sub hl [1, 2, 3, 0] rfl) hP hD hS
      exact cut12 (((ln + 1 - i : Int).toNat) + 1) i _ _ _ (by omega) (by intro j x y; omega) (Nat.lt_succ_self _) (lv_sub hl [1, 2, 3, 0] rfl) hP hD hS
  exact cut2 (((ln + 1 - 1 : Int).toNat) + 1) 1 sd _ _ _ (by omega) (by exact stg_0 hB8.1) (by exact hB.2.2) (by exact Or.inl hK0) (Nat.lt_succ_self _) (lv_sub hl [1, 2, 0] rfl) hP hD hS
