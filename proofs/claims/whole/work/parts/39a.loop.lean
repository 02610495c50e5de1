/-! THE CLAIM OUT OF ONE WALK OF THE LAW'S BODY. Your part is whole_start (and what it stands on); all else here is the same for every law, but numbers. -/
def R_law : String := "TextPipelineLaw"
def lw_P (b : Addr) (xs : List Int32) (args : Array Value) (s : State) : Prop := args = #[.ref b] ∧ s.IntsAt b xs ∧ xs.length ≤ 2560 ∧ (Jvm.Cond.and given_1 narrow_1).before args s = true
def lw_Q (_ : Array Value) (s : State) (o : Outcome) (t : State) : Prop := o = .returned (some (.int 1)) ∧ Framed s o t [] 601024 7293034
def lw_Z (below : List Frame) (a : Array Value) (s : State) : State → Prop := fun t => ∃ o, t.status = .running ∧ Ended t below o ∧ lw_Q a s o t
/-- the law's own end, with 1 on the stack, nothing written that was there before, its room as the claim has it -/
theorem lw_ret {p : Program} {l : Launch} {e : Env} {s : State} {m : MethodId} {below : List Frame} {meth : Method} {c : Code} {b : Nat} (hx : p.tables.exec = Jvm.exec) (hb : c.code = code) (hr : meth.sig.returnType = ret) (hlocks : meth.locks = false) {pc : Nat} {H : Heap} {ls : Array Slot} (hdg : decode code pc = .ok (.ireturn, 1)) : W p l e room_1 s m #[Value.ref b] below meth c H [] 601024 7293034 (lw_Z below #[Value.ref b] s) (F0 m pc ls [.int 1]) := by
  intro T hT X
  obtain ⟨fs, hret, hrun, hended, hW, hframe⟩ := X.leave (v := some (.int 1)) (hlocks := hlocks) (fun h => by rw [hr] at h; cases h)
  have hmeth' : T.vm.method? m = some meth := X.method'
  refine ⟨T.setFrames fs, ?_, .returned (some (.int 1)), hrun, hended, rfl, ⟨_, rfl⟩, hW, hframe⟩
  jvm_step X.here [X.here.top, hx, hb, hdg, hmeth', hr, ret, narrow_b1]
  (try refine ⟨rfl, ?_⟩); (try refine ⟨rfl, ?_⟩)
  first | (intro acts; rw [hret _ acts rfl rfl rfl]) | rw [hret _ _ rfl rfl rfl]
  exact Steps.refl _
/-- what holds at the law's entry: the machine, the code, the tables' words (any of lw_tbl by 'hts w (by decide +kernel)'), the script of L ints xs at the cell b, what the Statement gives of the start (any of its parts by flat_of_before) -/
def lw_At (p : Program) (s : State) (m : MethodId) (meth : Method) (c : Code) (b L : Nat) (xs : Nat → Int32) : Prop :=
  p.tables.exec = Jvm.exec ∧ c.code = code ∧ meth.sig.returnType = ret ∧ c.maxLocals = 7 ∧ s.vm.findClass R_law = some m.cls ∧ (∀ w ∈ lw_tbl, w.before #[Value.ref b] s = true) ∧ va_X b L xs s s.heap ∧ b < s.heap.size ∧ meth.locks = false ∧ (Jvm.Cond.and given_1 narrow_1).before #[Value.ref b] s = true
theorem dG_law_39 : decode code 39 = .ok (.tableswitch 912 0 15 #[77, 137, 225, 281, 292, 364, 420, 483, 496, 552, 620, 688, 701, 757, 793, 849], 77) := by decide +kernel
set_option maxRecDepth 100000 in
set_option maxHeartbeats 4000000 in
theorem lw_loop {p0 : Program} {e0 : Env} {s0 : State} {m0 : MethodId} {b0 : List Frame} {t0 : Method} {c0 : Code} (l : Launch) (hfl : l.flags = pinnedFlags ++ [noTraceFlag]) (dC : Nat → ClassId) (dI : Nat → Nat → Nat) (cI : ClassId) (cZ : ClassId) (cG : ClassId) (cR : ClassId) (cJ : ClassId) (pa : Nat) (kq : Nat) (tA : Nat → Nat) (xa : Nat) (xi : Nat) (k0a : Nat) (k0i : Nat) (k1a : Nat) (k1i : Nat) (k2a : Nat) (k2i : Nat) (k3a : Nat) (k3i : Nat) (fma : Nat) (fmi : Nat) (kfa : Nat) (kfi : Nat) (nua : Nat) (nui : Nat) (kna : Nat) (kni : Nat) (lA : Nat → Nat) (sA : Nat → Nat) (oa : Nat) (ad : Nat → Nat) {b L : Nat} {sc : Nat → Int32} (C : jLC p0 s0 m0 c0 b L sc dC dI cI cZ cG cR cJ) (hr : t0.sig.returnType = ret) (hlocks : t0.locks = false) : ∀ (n : Nat) (i : Int) (ls : Array Slot) (H : Heap) (locs : List Loc) (cells slots : Nat), ((L : Int) - i).toNat < n → (0 ≤ i ∧ i ≤ (L : Int)) → (cells : Int) ≤ 100 + i → (slots : Int) ≤ 10000 + 2 * i → lv_has ls 7 [(0, .ref b), (1, .ref pa), (2, .ref (ad 0)), (3, .ref oa), (4, .int (iv i))] → jHD dC dI cI cZ cG cR cJ pa kq tA xa xi k0a k0i k1a k1i k2a k2i k3a k3i fma fmi kfa kfi nua nui kna kni lA sA oa ad (fun q => s0.heap.size ≤ q) H → va_S (fun q => s0.heap.size ≤ q) s0.heap H locs → W p0 l e0 room_1 s0 m0 #[Value.ref b] b0 t0 c0 H locs cells slots (lw_Z b0 #[Value.ref b] s0) (F0 m0 23 ls []) := by
  intro n
  induction n with
  | zero => intro i ls H locs cells slots hm; exact absurd hm (Nat.not_lt_zero _)
  | succ n ih =>
    intro i ls H locs cells slots hm hi hcc hss hl hH hS
    have C0 := C
    obtain ⟨gX, gB, hml, hown, hw0, hX, hbl, hL, hKJ, hE⟩ := C
    have hbA : ¬ (fun q => s0.heap.size ≤ q) b := fun h => absurd hbl (Nat.not_lt.mpr h)
    refine lv_iload (pc := 23) gX gB dG_law_23 (lv_at hl 4 rfl) ?_
    refine lv_aload_n (pc := 25) gX gB dG_law_25 rfl (lv_at hl 0 rfl) ?_
    refine jv_slen (pc := 26) gX gB hX hbl hbA hS dG_law_26 ?_
    refine lv_iconst (pc := 27) (v := iv 5) gX gB dG_law_27 rfl ?_
    refine jv_isub (pc := 28) (x := (L : Int)) (y := 5) gX gB dG_law_28 ?_
    refine jv_icmp_gt (pc := 29) (tgt := 957) gX gB dG_law_29 (by decide) (by omega) (by omega) (fun h1 => ?_) (fun h1 => ?_)
    · refine lv_iconst (pc := 957) (v := iv 1) gX gB dG_law_957 rfl ?_
      refine va_forget (fun q hq => hS.2.2 q hq) (W.widen (k := 601024) (n := 7293034) (by omega) (by omega) ?_)
      rw [iv_1]
      exact lw_ret gX gB hr hlocks dG_law_958
    have nxt : ∀ (ls : Array Slot) (H : Heap) (locs : List Loc), jHD dC dI cI cZ cG cR cJ pa kq tA xa xi k0a k0i k1a k1i k2a k2i k3a k3i fma fmi kfa kfi nua nui kna kni lA sA oa ad (fun q => s0.heap.size ≤ q) H → va_S (fun q => s0.heap.size ≤ q) s0.heap H locs → lv_has ls 7 [(0, .ref b), (1, .ref pa), (2, .ref (ad 0)), (3, .ref oa), (4, .int (iv i))] → W p0 l e0 room_1 s0 m0 #[Value.ref b] b0 t0 c0 H locs (cells + 1) (slots + 6) (lw_Z b0 #[Value.ref b] s0) (F0 m0 951 ls []) := by
      intro ls H locs hH hS hl
      refine jv_iinc (pc := 951) (k := 4) (x := i) (n := 5) (lv' := [(4, .int (iv (i + 5))), (0, .ref b), (1, .ref pa), (2, .ref (ad 0)), (3, .ref oa)]) gX gB dG_law_951 hl rfl (by decide) rfl (fun ls hl => ?_)
      refine lv_goto (pc := 954) (tgt := 23) gX gB dG_law_954 (by decide) ?_
      exact ih (i + 5) _ _ _ _ _ (by omega) (by omega) (by omega) (by omega) (lv_sub hl [1, 2, 3, 4, 0] rfl) hH hS
    refine lv_aload_n (pc := 32) gX gB dG_law_32 rfl (lv_at hl 0 rfl) ?_
    refine lv_iload (pc := 33) gX gB dG_law_33 (lv_at hl 4 rfl) ?_
    refine jv_sld (pc := 35) (i := i) gX gB hX hbl hbA hS (by omega) hL dG_law_35 ?_
    refine lv_bipush (pc := 36) (v := iv 15) gX gB dG_law_36 (by decide) ?_
    refine lv_iand (pc := 38) gX gB dG_law_38 ?_
    obtain ⟨k, hk, he⟩ := pk_andE (iv (sv sc i)) (m := iv 15) 4 (by decide)
    rw [he]
    rcases (show k = 0 ∨ k = 1 ∨ k = 2 ∨ k = 3 ∨ k = 4 ∨ k = 5 ∨ k = 6 ∨ k = 7 ∨ k = 8 ∨ k = 9 ∨ k = 10 ∨ k = 11 ∨ k = 12 ∨ k = 13 ∨ k = 14 ∨ k = 15 by omega) with rfl | rfl | rfl | rfl | rfl | rfl | rfl | rfl | rfl | rfl | rfl | rfl | rfl | rfl | rfl | rfl
    · refine lv_tableIn (pc := 39) (tgt := 116) (off := 77) gX gB dG_law_39 (by decide) (by decide) (by decide) (by decide) ?_
      exact lc_0 l hfl dC dI cI cZ cG cR cJ pa kq tA xa xi k0a k0i k1a k1i k2a k2i k3a k3i fma fmi kfa kfi nua nui kna kni lA sA oa ad C0 (by omega) (by omega) (by omega) hl hH hS nxt
    · refine lv_tableIn (pc := 39) (tgt := 176) (off := 137) gX gB dG_law_39 (by decide) (by decide) (by decide) (by decide) ?_
      exact lc_1 l hfl dC dI cI cZ cG cR cJ pa kq tA xa xi k0a k0i k1a k1i k2a k2i k3a k3i fma fmi kfa kfi nua nui kna kni lA sA oa ad C0 (by omega) (by omega) (by omega) hl hH hS nxt
    · refine lv_tableIn (pc := 39) (tgt := 264) (off := 225) gX gB dG_law_39 (by decide) (by decide) (by decide) (by decide) ?_
      exact lc_2 l hfl dC dI cI cZ cG cR cJ pa kq tA xa xi k0a k0i k1a k1i k2a k2i k3a k3i fma fmi kfa kfi nua nui kna kni lA sA oa ad C0 (by omega) (by omega) (by omega) hl hH hS nxt
    · refine lv_tableIn (pc := 39) (tgt := 320) (off := 281) gX gB dG_law_39 (by decide) (by decide) (by decide) (by decide) ?_
      exact lc_3 l hfl dC dI cI cZ cG cR cJ pa kq tA xa xi k0a k0i k1a k1i k2a k2i k3a k3i fma fmi kfa kfi nua nui kna kni lA sA oa ad C0 (by omega) (by omega) (by omega) hl hH hS nxt
    · refine lv_tableIn (pc := 39) (tgt := 331) (off := 292) gX gB dG_law_39 (by decide) (by decide) (by decide) (by decide) ?_
      exact lc_4 l hfl dC dI cI cZ cG cR cJ pa kq tA xa xi k0a k0i k1a k1i k2a k2i k3a k3i fma fmi kfa kfi nua nui kna kni lA sA oa ad C0 (by omega) (by omega) (by omega) hl hH hS nxt
    · refine lv_tableIn (pc := 39) (tgt := 403) (off := 364) gX gB dG_law_39 (by decide) (by decide) (by decide) (by decide) ?_
      exact lc_5 l hfl dC dI cI cZ cG cR cJ pa kq tA xa xi k0a k0i k1a k1i k2a k2i k3a k3i fma fmi kfa kfi nua nui kna kni lA sA oa ad C0 (by omega) (by omega) (by omega) hl hH hS nxt
    · refine lv_tableIn (pc := 39) (tgt := 459) (off := 420) gX gB dG_law_39 (by decide) (by decide) (by decide) (by decide) ?_
      exact lc_6 l hfl dC dI cI cZ cG cR cJ pa kq tA xa xi k0a k0i k1a k1i k2a k2i k3a k3i fma fmi kfa kfi nua nui kna kni lA sA oa ad C0 (by omega) (by omega) (by omega) hl hH hS nxt
    · refine lv_tableIn (pc := 39) (tgt := 522) (off := 483) gX gB dG_law_39 (by decide) (by decide) (by decide) (by decide) ?_
      exact lc_7 l hfl dC dI cI cZ cG cR cJ pa kq tA xa xi k0a k0i k1a k1i k2a k2i k3a k3i fma fmi kfa kfi nua nui kna kni lA sA oa ad C0 (by omega) (by omega) (by omega) hl hH hS nxt
    · refine lv_tableIn (pc := 39) (tgt := 535) (off := 496) gX gB dG_law_39 (by decide) (by decide) (by decide) (by decide) ?_
      exact lc_8 l hfl dC dI cI cZ cG cR cJ pa kq tA xa xi k0a k0i k1a k1i k2a k2i k3a k3i fma fmi kfa kfi nua nui kna kni lA sA oa ad C0 (by omega) (by omega) (by omega) hl hH hS nxt
    · refine lv_tableIn (pc := 39) (tgt := 591) (off := 552) gX gB dG_law_39 (by decide) (by decide) (by decide) (by decide) ?_
      exact lc_9 l hfl dC dI cI cZ cG cR cJ pa kq tA xa xi k0a k0i k1a k1i k2a k2i k3a k3i fma fmi kfa kfi nua nui kna kni lA sA oa ad C0 (by omega) (by omega) (by omega) hl hH hS nxt
    · refine lv_tableIn (pc := 39) (tgt := 659) (off := 620) gX gB dG_law_39 (by decide) (by decide) (by decide) (by decide) ?_
      exact lc_10 l hfl dC dI cI cZ cG cR cJ pa kq tA xa xi k0a k0i k1a k1i k2a k2i k3a k3i fma fmi kfa kfi nua nui kna kni lA sA oa ad C0 (by omega) (by omega) (by omega) hl hH hS nxt
    · refine lv_tableIn (pc := 39) (tgt := 727) (off := 688) gX gB dG_law_39 (by decide) (by decide) (by decide) (by decide) ?_
      exact lc_11 l hfl dC dI cI cZ cG cR cJ pa kq tA xa xi k0a k0i k1a k1i k2a k2i k3a k3i fma fmi kfa kfi nua nui kna kni lA sA oa ad C0 (by omega) (by omega) (by omega) hl hH hS nxt
    · refine lv_tableIn (pc := 39) (tgt := 740) (off := 701) gX gB dG_law_39 (by decide) (by decide) (by decide) (by decide) ?_
      exact lc_12 l hfl dC dI cI cZ cG cR cJ pa kq tA xa xi k0a k0i k1a k1i k2a k2i k3a k3i fma fmi kfa kfi nua nui kna kni lA sA oa ad C0 (by omega) (by omega) (by omega) hl hH hS nxt
    · refine lv_tableIn (pc := 39) (tgt := 796) (off := 757) gX gB dG_law_39 (by decide) (by decide) (by decide) (by decide) ?_
      exact lc_13 l hfl dC dI cI cZ cG cR cJ pa kq tA xa xi k0a k0i k1a k1i k2a k2i k3a k3i fma fmi kfa kfi nua nui kna kni lA sA oa ad C0 (by omega) (by omega) (by omega) hl hH hS nxt
    · refine lv_tableIn (pc := 39) (tgt := 832) (off := 793) gX gB dG_law_39 (by decide) (by decide) (by decide) (by decide) ?_
      exact lc_14 l hfl dC dI cI cZ cG cR cJ pa kq tA xa xi k0a k0i k1a k1i k2a k2i k3a k3i fma fmi kfa kfi nua nui kna kni lA sA oa ad C0 (by omega) (by omega) (by omega) hl hH hS nxt
    · refine lv_tableIn (pc := 39) (tgt := 888) (off := 849) gX gB dG_law_39 (by decide) (by decide) (by decide) (by decide) ?_
      exact lc_15 l hfl dC dI cI cZ cG cR cJ pa kq tA xa xi k0a k0i k1a k1i k2a k2i k3a k3i fma fmi kfa kfi nua nui kna kni lA sA oa ad C0 (by omega) (by omega) (by omega) hl hH hS nxt
