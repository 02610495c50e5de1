/-! the statics that the class reads; contracts that ask for them; throwers; helpers with handlers -/
def gr (j : Int) : Int := if j = 0 then 254 else if j = 1 then 9 else if j = 2 then 12 else if j = 3 then 11 else 999
def jG (A : Nat → Prop) (U : State) : Prop := ∃ g : Nat, va_Z "TextPipeline$Table" "GREATEST" "[I" (.ref g) A U U.heap ∧ va_T .int g 7 (fun j => .int (iv (gr (j : Int)))) A U U.heap
theorem jG.moved {A B : Nat → Prop} {s U : State} (h : jG A s) (hW : s.WarmedH U.vm) (hk : ∀ a : Nat, a < s.heap.size → ¬ A a → U.heap[a]? = s.heap[a]?) (hB : ∀ q, B q → A q) : jG B U := by
  obtain ⟨g, h1, h2⟩ := h
  exact ⟨g, ((va_Z.moved hW.alike h1).kept hk).narrow hB, ((va_T.moved hW.alike h2).kept hk).narrow hB⟩
def jE (A : Nat → Prop) (U : State) : Prop := jX A U ∧ jG A U
theorem jE.moved {A B : Nat → Prop} {s U : State} (h : jE A s) (hW : s.WarmedH U.vm) (hk : ∀ a : Nat, a < s.heap.size → ¬ A a → U.heap[a]? = s.heap[a]?) (hz : s.heap.size ≤ U.heap.size) (hB : ∀ q, B q → A q) : jE B U :=
  ⟨h.1.moved hW hk hz hB, h.2.moved hW hk hB⟩
theorem jE.at {A B : Nat → Prop} {s U : State} {H : Heap} {locs : List Loc} (h : jE A s) (hS : va_S A s.heap H locs) (hB : ∀ q, B q → A q) (hU : U.heap = H) (hW : s.WarmedH U.vm) : jE B U :=
  h.moved hW (fun a h1 h2 => by rw [hU]; exact hS.2.1 a h1 h2) (by rw [hU]; exact hS.1) hB
abbrev jPreE (D : va_G) (tys : List (ClassId × FieldType)) (wc : va_W) (sz : Nat) : State → Prop := fun U => jPre D tys wc sz U ∧ jE (va_A wc sz) U
section XF
variable {p : Program} {l : Launch} {e : Env} {R : Room} {s : State} {m : MethodId} {args : Array Value} {below : List Frame} {meth : Method} {c : Code} {H : Heap} {locs : List Loc} {cells slots : Nat} {Q : State → Prop}
variable {pc : Nat} {ls : Array Slot} {rest st0 As av : List Value} {D : va_G} {tys : List (ClassId × FieldType)} {wb wc wr : va_W} {A : Nat → Prop} {a : Array Value} {b : Nat}
theorem jv_blindE {sz : Nat} : FrameBlind (va_Pc av (jPreE D tys wc sz)) := fun a U g mk q => by
  obtain ⟨q0, ⟨q1, qP, qK, qD⟩, qE⟩ := q
  exact ⟨q0, ⟨q1, qP, va_K.moved (u := U) (U := U.calling g mk a) (Vm.Alike.refl U.vm) qK, qD⟩, qE.moved (U := U.calling g mk a) (State.WarmedH.refl U) (fun _ _ _ => rfl) (Nat.le_refl _) (fun _ h => h)⟩
theorem jv_preSE (hK : va_K D vwCl tys s) (hP : va_P D vwCl wb H) (hD : va_D A wb) (hS : va_S A s.heap H locs) (hA : ∀ q, s.heap.size ≤ q → A q) (hE : jE A s) (isC : List Nat) (hC : isC.map (fun i => wb[i]?) = wc.map some) (hnC : va_nd isC = true) : PreS s H (va_Pc av (jPreE D tys wc H.size)) av :=
  ⟨jv_blindE, fun U hU hW => ⟨rfl, ⟨by rw [hU], by rw [hU]; exact hP.sub isC (jv_pick hC), va_K.moved hW.alike hK, (hD.sub isC hnC hC).weaken (fun _ _ _ _ => trivial)⟩, hE.at hS (va_free hD hS hA isC hC) hU hW⟩⟩
theorem jv_preVE (hK : va_K D vwCl tys s) (hP : va_P D vwCl wb H) (hD : va_D A wb) (hS : va_S A s.heap H locs) (hA : ∀ q, s.heap.size ≤ q → A q) (hE : jE A s) (isC : List Nat) (hC : isC.map (fun i => wb[i]?) = wc.map some) (hnC : va_nd isC = true) {C : String} {ci q0 : Nat} {T : u_T} {N : Nat} {fs : List Value} (hc : vwCl[ci]? = some (C, T, N)) (he : wb[q0]? = some (b, .inr (ci, fs))) : PreV s H C b (va_Pc (.ref b :: As) (jPreE D tys wc H.size)) As :=
  ⟨jv_blindE, va_recv hK hP hc he, fun U hU hW => ⟨rfl, ⟨by rw [hU], by rw [hU]; exact hP.sub isC (jv_pick hC), va_K.moved hW.alike hK, (hD.sub isC hnC hC).weaken (fun _ _ _ _ => trivial)⟩, hE.at hS (va_free hD hS hA isC hC) hU hW⟩⟩
theorem jcVm {own C : String} {idx : Nat} {y : MethodName} {bytes : ByteArray} {maxL n mc ms : Nat} {ret : Option FieldType} {rm : Room} (hw0 : ∀ w ∈ WS0, w.before args s = true) (k : jCalV y C bytes maxL ret n) (hl : Cond.methodLink own idx y ∈ WS0) (hrc : rm.cells = mc) (hrs : rm.slots = ms) (hR : rm.frames + 1 ≤ R.frames ∧ 8 + (maxL + 11) + rm.locals ≤ R.locals) :
    CallW R s args own C idx y bytes maxL ret (.code y bytes maxL ret :: WS0) rm mc ms n := by
  obtain ⟨k1, k2, k3, k4, k5, k6⟩ := k
  exact ⟨callB_of n hw0 (jgood0 k4) rfl hrc hrs (by rw [k5]; exact hw0 _ k3) (hw0 _ hl) k6 hR, hw0 _ k1, hw0 _ k2⟩
theorem jcSm {own : String} {idx : Nat} {y : MethodName} {bytes : ByteArray} {maxL n mc ms : Nat} {ret : Option FieldType} {rm : Room} (hw0 : ∀ w ∈ WS0, w.before args s = true) (k : jCalS y bytes maxL ret n) (hl : Cond.methodLink own idx y ∈ WS0) (hrc : rm.cells = mc) (hrs : rm.slots = ms) (hR : rm.frames + 1 ≤ R.frames ∧ 8 + (maxL + 11) + rm.locals ≤ R.locals) :
    CallB R s args own idx y bytes maxL ret (.code y bytes maxL ret :: WS0) rm mc ms n ∧ (Cond.static y).before args s = true := by
  obtain ⟨k1, k2, k3, k4⟩ := k
  exact ⟨callB_of n hw0 (jgood0 k3) rfl hrc hrs (hw0 _ k2) (hw0 _ hl) k4 hR, hw0 _ k1⟩
/-- a call that makes cells -/
theorem jv_riM {mc ms : Nat} {S : Type} {post : Int32 → S → Prop} {w1 wn : S → va_W} (hr : va_Run p l e R s m args below meth c H locs cells slots mc ms (F0 m pc ls st0) rest (va_Qi post (fun u => jEnd D tys (va_A wc H.size) (w1 u)) (va_A wc H.size) a) (va_A wc H.size))
    (hP : va_P D vwCl wb H) (hD : va_D A wb) (hS : va_S A s.heap H locs) (hA : ∀ q, s.heap.size ≤ q → A q)
    (isC isR isN : List Nat) (hC : isC.map (fun i => wb[i]?) = wc.map some) (hR : isR.map (fun i => wb[i]?) = wr.map some) (hn : va_nd isR = true) (hdis : ∀ i ∈ isR, i ∉ isC) (hnN : va_nd isN = true) (hN : ∀ u, isN.map (fun i => (wr ++ w1 u)[i]?) = (wn u).map some)
    (kk : ∀ (r : Int32) (u : S) (H1 : Heap) (locs1 : List Loc), post r u → va_P D vwCl (wn u) H1 → va_D A (wn u) → va_S A s.heap H1 locs1 → W p l e R s m args below meth c H1 locs1 (cells + mc) (slots + ms) Q (F0 m (pc + 3) ls (.int r :: rest))) : W p l e R s m args below meth c H locs cells slots Q (F0 m pc ls st0) := by
  have hF := va_free (wc := wc) hD hS hA isC hC
  refine va_calli hr hS (fun q _ h => hF q h) hF (fun r u t H1 locs1 ht hvm hw hB hz hk hS1 => ?_)
  obtain ⟨hP1, hK1, hD1⟩ := hB
  rw [ht] at hP1
  obtain ⟨h1, h2⟩ := va_join (wr := wr) (w1 := w1 u) hP hD isC isR hC hR hn hdis hk hF hP1 hD1
  exact kk r u H1 locs1 hw (h1.sub isN (jv_pick (hN u))) (h2.sub isN hnN (hN u)) hS1
end XF
section XG
variable {l : Launch} {y : MethodName} {ws ws' : List Cond} {rm : Room} {cc : ByteArray} {maxL : Nat} {D : va_G} {tys : List (ClassId × FieldType)} {wc : va_W} {avs : List Value} {sz : Nat}
theorem jv_mzE {S : Type} {post : Int32 → S → Prop} {w1 : S → va_W} (hy : plainName y.cls = true) (hw : ws = Cond.code y cc maxL (some .boolean) :: ws') (hlen : (lg_sl avs).length ≤ maxL)
    (body : ∀ (p : Program) (e : Env) (s : State) (m : MethodId) (args : Array Value) (below : List Frame) (meth : Method) (c : Code) (R : Room) (Q : State → Prop) (A : Nat → Prop) (ls : Array Slot),
      p.tables.exec = Jvm.exec → c.code = cc → (∀ w ∈ ws, w.before args s = true) → s.vm.findClass y.cls = some m.cls → c.maxLocals = maxL → rm.frames ≤ R.frames → rm.locals ≤ R.locals → (∀ q : Nat, s.heap.size ≤ q → A q) → va_K D vwCl tys s → jE A s →
      (∀ {pc : Nat} {ls : Array Slot} {H : Heap} {locs : List Loc} (v : Int32) (u : S), decode cc pc = .ok (.ireturn, 1) → (v = iv 0 ∨ v = iv 1) → post v u → va_P D vwCl (w1 u) H → va_D A (w1 u) → va_S A s.heap H locs → W p l e R s m args below meth c H locs 0 0 Q (F0 m pc ls [.int v])) →
      lv_has ls maxL (lv_args 0 avs) → va_P D vwCl wc s.heap → va_D A wc → va_S A s.heap s.heap [] → W p l e R s m args below meth c s.heap [] 0 0 Q (F0 m 0 ls [])) :
    Met l y ws rm (va_Pc avs (jPreE D tys wc sz)) (va_Qi post (fun u => jEnd D tys (va_A wc sz) (w1 u)) (va_A wc sz)) 0 0 (va_A wc sz) := by
  refine Met.ofW (cc := cc) (maxL := maxL) (ret := some .boolean) hy hw ?_
  intro p e s m args below meth c s₁ B hml hv
  obtain ⟨hargs, ⟨hsz, hP, hK, hD0⟩, hE0⟩ := hv
  subst hsz
  have hE : entryFrame m args maxL = F0 m 0 ((lg_sl avs ++ List.replicate (maxL - (lg_sl avs).length) Slot.unset).toArray) [] := by rw [hargs]; exact lg_entry_eq m avs maxL
  rw [hE]
  have hlocks := B.notSynchronized
  exact body p e s m args below meth c _ _ (va_A wc s.heap.size) _ B.exec B.bytes (atoms_spec (ws := ws) B.pre) (findClass_of_methodNamed B.named) hml (Nat.le_refl _) (Nat.le_refl _) (fun q h => Or.inr h) hK hE0
    (fun v u hdg hz hp hP hD hS => W.zret B.exec B.bytes B.returns (by rcases hz with rfl | rfl <;> decide) (fun t ht hW => ⟨⟨v, u, rfl, hp, by rw [ht]; exact hP, va_K.moved hW.alike hK, hD⟩, hS.F ht⟩) hS.2.2 hdg)
    (lv_entry avs hlen) hP (hD0.self (sz := s.heap.size)) va_S.rf
theorem jv_mvE {S : Type} {post : S → Prop} {w1 : S → va_W} (hy : plainName y.cls = true) (hw : ws = Cond.code y cc maxL none :: ws') (hlen : (lg_sl avs).length ≤ maxL)
    (body : ∀ (p : Program) (e : Env) (s : State) (m : MethodId) (args : Array Value) (below : List Frame) (meth : Method) (c : Code) (R : Room) (Q : State → Prop) (A : Nat → Prop) (ls : Array Slot),
      p.tables.exec = Jvm.exec → c.code = cc → (∀ w ∈ ws, w.before args s = true) → s.vm.findClass y.cls = some m.cls → c.maxLocals = maxL → rm.frames ≤ R.frames → rm.locals ≤ R.locals → (∀ q : Nat, s.heap.size ≤ q → A q) → va_K D vwCl tys s → jE A s →
      (∀ {pc : Nat} {ls : Array Slot} {H : Heap} {locs : List Loc} (u : S), decode cc pc = .ok (.return_, 1) → post u → va_P D vwCl (w1 u) H → va_D A (w1 u) → va_S A s.heap H locs → W p l e R s m args below meth c H locs 0 0 Q (F0 m pc ls [])) →
      lv_has ls maxL (lv_args 0 avs) → va_P D vwCl wc s.heap → va_D A wc → va_S A s.heap s.heap [] → W p l e R s m args below meth c s.heap [] 0 0 Q (F0 m 0 ls [])) :
    Met l y ws rm (va_Pc avs (jPreE D tys wc sz)) (va_Qv post (fun u => jEnd D tys (va_A wc sz) (w1 u)) (va_A wc sz)) 0 0 (va_A wc sz) := by
  refine Met.ofW (cc := cc) (maxL := maxL) (ret := none) hy hw ?_
  intro p e s m args below meth c s₁ B hml hv
  obtain ⟨hargs, ⟨hsz, hP, hK, hD0⟩, hE0⟩ := hv
  subst hsz
  have hE : entryFrame m args maxL = F0 m 0 ((lg_sl avs ++ List.replicate (maxL - (lg_sl avs).length) Slot.unset).toArray) [] := by rw [hargs]; exact lg_entry_eq m avs maxL
  rw [hE]
  have hlocks := B.notSynchronized
  exact body p e s m args below meth c _ _ (va_A wc s.heap.size) _ B.exec B.bytes (atoms_spec (ws := ws) B.pre) (findClass_of_methodNamed B.named) hml (Nat.le_refl _) (Nat.le_refl _) (fun q h => Or.inr h) hK hE0
    (fun u hdg hp hP hD hS => W.vret B.exec B.bytes B.returns (fun t ht hW => ⟨⟨u, rfl, hp, by rw [ht]; exact hP, va_K.moved hW.alike hK, hD⟩, hS.F ht⟩) hS.2.2 hdg)
    (lv_entry avs hlen) hP (hD0.self (sz := s.heap.size)) va_S.rf
/-- a contract of a method that throws, by its walk -/
theorem jx_mt {S : Type} {cls : String} {post : S → Prop} {w1 : S → va_W} {ret : Option FieldType} {ik ic : Nat} (hfl : l.flags = pinnedFlags ++ [noTraceFlag]) (hy : plainName y.cls = true) (hyc : y.cls = "TextPipeline") (hw : ws = Cond.code y cc maxL ret :: WS0) (hlen : (lg_sl avs).length ≤ maxL)
    (hr1 : 6 ≤ rm.frames) (hr2 : 90 ≤ rm.locals) (hr3 : 1 ≤ rm.cells) (hr4 : 6 ≤ rm.slots) (hat : ∀ a ∈ Bundle.ownAtoms "TextPipeline" ic cls xNames, a ∈ WS0 ∨ a ∈ jXF ∨ a ∈ jXV) (hcls : Bundle.fit cls = true) (hk : Cond.classLink "TextPipeline" ik cls ∈ WS0) (hini : Cond.initialized cls ∈ WS0)
    (body : ∀ (p : Program) (e : Env) (s : State) (m : MethodId) (args : Array Value) (below : List Frame) (meth : Method) (c : Code) (R : Room) (Q : State → Prop) (A : Nat → Prop) (ls : Array Slot),
      p.tables.exec = Jvm.exec → c.code = cc → (∀ w ∈ ws, w.before args s = true) → s.vm.findClass y.cls = some m.cls → c.maxLocals = maxL → rm.frames ≤ R.frames → rm.locals ≤ R.locals → (1 ≤ R.cells ∧ 6 ≤ R.slots) → (∀ q : Nat, s.heap.size ≤ q → A q) → va_K D vwCl tys s → jE A s →
      (∀ {pc is : Nat} {text : String} {ls : Array Slot} {H : Heap} {locs : List Loc} (u : S), (is, text) ∈ jXS → decode cc pc = .ok (.new ik, 3) → decode cc (pc + 3) = .ok (.dup, 1) → decode cc (pc + 4) = .ok (.ldc is, 2) → decode cc (pc + 6) = .ok (.invokespecial ic, 3) → decode cc (pc + 9) = .ok (.athrow, 1) →
        ls.size = maxL → post u → va_P D vwCl (w1 u) H → va_D A (w1 u) → va_S A s.heap H locs → W p l e R s m args below meth c H locs 0 0 Q (F0 m pc ls [])) →
      (∀ {pc : Nat} {ls : Array Slot} {st : List Value} {H : Heap} {locs : List Loc} (q : Nat) (u : S) (ce : Cell), post u → va_P D vwCl (w1 u) H → va_D A (w1 u) → va_S A s.heap H locs → H[q]? = some ce → ce.vm = .none → s.vm.findClass cls = some ce.cls → jWX p l e R s m args below meth c H locs 1 6 Q q (F0 m pc ls st)) →
      lv_has ls maxL (lv_args 0 avs) → va_P D vwCl wc s.heap → va_D A wc → va_S A s.heap s.heap [] → W p l e R s m args below meth c s.heap [] 0 0 Q (F0 m 0 ls [])) :
    jMX l y ws rm (va_Pc avs (jPreE D tys wc sz)) (jPX cls post (fun u => jEnd D tys (va_A wc sz) (w1 u)) (va_A wc sz)) 1 6 (va_A wc sz) := by
  refine jx_ofW (cc := cc) (maxL := maxL) (ret := ret) hy hw ?_
  intro p e s m args below meth c s₁ B hml hv hEt
  obtain ⟨hargs, ⟨hsz, hP, hK, hD0⟩, hE0⟩ := hv
  subst hsz
  have hE : entryFrame m args maxL = F0 m 0 ((lg_sl avs ++ List.replicate (maxL - (lg_sl avs).length) Slot.unset).toArray) [] := by rw [hargs]; exact lg_entry_eq m avs maxL
  rw [hE]
  have hlocks := B.notSynchronized
  have hts := atoms_spec (ws := ws) B.pre
  have hown := findClass_of_methodNamed B.named
  refine body p e s m args below meth c _ _ (va_A wc s.heap.size) _ B.exec B.bytes hts hown hml (Nat.le_refl _) (Nat.le_refl _) ⟨hr3, hr4⟩ (fun q h => Or.inr h) hK hE0 ?_ ?_
    (lv_entry avs hlen) hP (hD0.self (sz := s.heap.size)) va_S.rf
  · intro pc is text ls H locs u hs d0 d3 d4 d6 d9 hsz hp hP hD hS
    refine jx_throw (own := "TextPipeline") (cls := cls) (text := text) (ik := ik) (is := is) (ic := ic) (A := va_A wc s.heap.size) B.exec B.bytes hfl hlocks hEt (hsz.trans hml.symm) (by rw [← hyc]; exact hown) (fun w h => hts w (by rw [hw]; exact List.mem_cons_of_mem _ h)) hE0.1 hS hat hcls hk hini rfl hs d0 d3 d4 d6 d9 hr1 (by show 0 + 90 ≤ _; rw [Nat.zero_add]; exact hr2) (by rw [Nat.zero_add]; exact hr3) (by rw [Nat.zero_add]; exact hr4) ?_ hS.2.2
    intro t ce h1 h2 h3 h4 h5 hW
    refine ⟨⟨u, hp, fun k q hq => (hP k q hq).kept (h1 q.1 (hP k q hq).lt), va_K.moved hW.alike hK, hD⟩, ⟨Nat.le_trans hS.1 h2, fun q a1 a2 => by rw [h1 q (Nat.lt_of_lt_of_le a1 hS.1)]; exact hS.2.1 q a1 a2⟩, ce, h3, h4, h5⟩
  · intro pc ls st H locs q u ce hp hP hD hS h3 h4 h5
    refine jx_out hlocks hEt (fun t ht hW => ?_) hS.2.2
    exact ⟨⟨u, hp, by rw [ht]; exact hP, va_K.moved hW.alike hK, hD⟩, hS.F ht, ce, by rw [ht]; exact h3, h4, by rw [hW.alike.findClass]; exact h5⟩
/-- a contract of a helper with handlers: one cell, six slots at most -/
theorem jx_mg {S : Type} {post : Int32 → S → Prop} {w1 : S → va_W} {hh : List (Nat × Nat × Nat × Nat)} (hy : plainName y.cls = true) (hw : ws = Cond.codeWith y cc maxL (some .int) hh :: ws') (hlen : (lg_sl avs).length ≤ maxL) (hr3 : 1 ≤ rm.cells) (hr4 : 6 ≤ rm.slots)
    (body : ∀ (p : Program) (e : Env) (s : State) (m : MethodId) (args : Array Value) (below : List Frame) (meth : Method) (c : Code) (R : Room) (Q : State → Prop) (A : Nat → Prop) (ls : Array Slot),
      p.tables.exec = Jvm.exec → c.code = cc → (∀ w ∈ ws, w.before args s = true) → s.vm.findClass y.cls = some m.cls → c.maxLocals = maxL → rm.frames ≤ R.frames → rm.locals ≤ R.locals → (1 ≤ R.cells ∧ 6 ≤ R.slots) → c.exceptionTable.toList.map (fun h => (h.startPc, h.endPc, h.handlerPc, h.catchType)) = hh → (∀ q : Nat, s.heap.size ≤ q → A q) → va_K D vwCl tys s → jE A s →
      (∀ {pc cells slots : Nat} {ls : Array Slot} {H : Heap} {locs : List Loc} (v : Int32) (u : S), cells ≤ 1 → slots ≤ 6 → decode cc pc = .ok (.ireturn, 1) → post v u → va_P D vwCl (w1 u) H → va_D A (w1 u) → va_S A s.heap H locs → W p l e R s m args below meth c H locs cells slots Q (F0 m pc ls [.int v])) →
      lv_has ls maxL (lv_args 0 avs) → va_P D vwCl wc s.heap → va_D A wc → va_S A s.heap s.heap [] → W p l e R s m args below meth c s.heap [] 0 0 Q (F0 m 0 ls [])) :
    Met l y ws rm (va_Pc avs (jPreE D tys wc sz)) (va_Qi post (fun u => jEnd D tys (va_A wc sz) (w1 u)) (va_A wc sz)) 1 6 (va_A wc sz) := by
  refine va_MetW (cc := cc) (maxL := maxL) (ret := some .int) hy hw ?_
  intro p e s m args below meth c s₁ B hml hv
  have hT : c.exceptionTable.toList.map (fun h => (h.startPc, h.endPc, h.handlerPc, h.catchType)) = hh := by
    obtain ⟨m', meth', c', hn', hm', hc', -, -, he, -⟩ := Cond.codeWith_spec (atoms_spec (ws := ws) B.pre _ (by rw [hw]; exact List.mem_cons_self))
    cases B.named.symm.trans hn'
    cases B.method.symm.trans hm'
    cases (Stand.of_body B).code.symm.trans hc'
    exact he
  obtain ⟨hargs, ⟨hsz, hP, hK, hD0⟩, hE0⟩ := hv
  subst hsz
  have hE : entryFrame m args maxL = F0 m 0 ((lg_sl avs ++ List.replicate (maxL - (lg_sl avs).length) Slot.unset).toArray) [] := by rw [hargs]; exact lg_entry_eq m avs maxL
  rw [hE]
  have hlocks := B.notSynchronized
  exact body p e s m args below meth c _ _ (va_A wc s.heap.size) _ B.exec B.bytes (atoms_spec (ws := ws) B.pre) (findClass_of_methodNamed B.named) hml (Nat.le_refl _) (Nat.le_refl _) ⟨hr3, hr4⟩ hT (fun q h => Or.inr h) hK hE0
    (fun v u h1 h2 hdg hp hP hD hS => W.widen h1 h2 (W.iret B.exec B.bytes B.returns (fun t ht hW => ⟨⟨v, u, rfl, hp, by rw [ht]; exact hP, va_K.moved hW.alike hK, hD⟩, hS.F ht⟩) hS.2.2 hdg))
    (lv_entry avs hlen) hP (hD0.self (sz := s.heap.size)) va_S.rf
end XG
section XH
variable {p : Program} {l : Launch} {e : Env} {R : Room} {s : State} {m : MethodId} {args : Array Value} {below : List Frame} {meth : Method} {c : Code} {H : Heap} {locs : List Loc} {cells slots : Nat} {Q : State → Prop}
/-- a call of a static helper with handlers -/
theorem jx_runG {y : MethodName} {bytes cc : ByteArray} {maxL nL mc ms n index : Nat} {ret : Option FieldType} {hh : List (Nat × Nat × Nat × Nat)} {rm : Room} {Pc : Array Value → State → Prop} {Qc : Array Value → State → Outcome → State → Prop} {free : Addr → Prop} {own : String} {As rest : List Value} {g : JFrame}
    (S : CallFix p m c cc nL s args WS0 own) (hM : Met l y (Cond.codeWith y bytes maxL ret hh :: WS0) rm Pc Qc mc ms free) (hcode : Cond.codeWith y bytes maxL ret hh ∈ WS0) (hst : Cond.static y ∈ WS0) (hini : Cond.initialized y.cls ∈ WS0) (hl : Cond.methodLink own index y ∈ WS0)
    (hd : y.cls ≠ "java/lang/invoke/MethodHandle" ∧ y.cls ≠ "java/lang/invoke/VarHandle" ∧ (parseMethodDescriptor y.desc).map (fun d => d.parameters.length) = some n) (hrc : rm.cells = mc) (hrs : rm.slots = ms) (hR : rm.frames + 1 ≤ R.frames ∧ 8 + (maxL + 11) + rm.locals ≤ R.locals) (hp : PreS s H Pc As)
    (hg : g.method = m) (hn : As.length = n) (hsize : g.locals.size = nL) (hstack : g.stack = As.reverse ++ rest) (hW : 2 * g.monitorRoom + (rest.map fun v => v.category).sum ≤ 8) (hdg : decode cc g.pc = .ok (.invokestatic index, 3)) (hf : cells + mc ≤ R.cells ∧ slots + ms ≤ R.slots) :
    va_Run p l e R s m args below meth c H locs cells slots mc ms g rest (Qc As.toArray) free := by
  obtain ⟨hx, hb, hml, ho, hw0⟩ := S
  have hK : Back l R p e below s args y 3 8 (PreOf R mc ms Pc) (PostOf Qc mc ms free) := va_backW (hh := hh) (bytes := bytes) (maxL := maxL) (ret := ret) hM hp.1 hrc hrs hR.1 hR.2 (pay_in hw0 (jgood0 hcode)) List.mem_cons_self
    (fun a' U hW => word_at hW (good_of_word (ws0_good _ hini)) (hw0 _ hini))
  intro T hT X
  obtain ⟨mk, methM, cM, hnamed, hmethM, -, -, -, -, -, -, hsig⟩ := Cond.codeWith_spec (hw0 _ hcode)
  have hstatic : methM.isStatic = true := Cond.static_spec hnamed hmethM (hw0 _ hst)
  obtain ⟨kP, hkP, -⟩ := className_of_methodNamed hnamed
  have hinitP : kP.init = .initialized := Cond.initialized_spec (findClass_of_methodNamed hnamed) hkP (hw0 _ hini)
  have hlen : As.length = methM.sig.parameters.length := by
    have h2 := hd.2.2
    rw [hsig] at h2
    exact hn.trans (Option.some.inj h2).symm
  obtain ⟨vm₁, X₁, hstep₁⟩ := X.invokestatic hx ho (hw0 _ hl) hnamed hmethM hstatic hkP hinitP ⟨hd.1, hd.2.1⟩ (g := g) hg (argsL := As) (rest := rest) hlen hstack (by rw [hb]; exact hdg)
  obtain ⟨v, ⟨U', l2, c2, s2⟩, X', ⟨g', mk', t, L, e1, e2, hq, h1, hL, h2, h3⟩, hsteps⟩ := hK m meth c ⟨T.setVm vm₁, locs, cells, slots⟩ { g with stack := rest } (.invokestatic index) mk As.toArray X₁ hg (hsize.trans hml.symm) (by rw [hb]; exact hdg) hW (X₁.named hnamed) ⟨hf.1, hf.2, hp.2 (T.setVm vm₁) hT X₁.warmed⟩
  dsimp only [Pt.U, Pt.locs, Pt.cells, Pt.slots] at X' e1 e2 h1 h2 h3 hsteps
  subst h1; subst h2; subst h3
  exact ⟨v, (T.setVm vm₁).calling g' mk' As.toArray, t, U', L, hT, X', hL, e1, e2, hq, fun target h => hstep₁ _ fun acts => by rw [doInvoke_state]; exact hsteps.trans h⟩
end XH
/-! the table of greatest values; the law's array of one long -/
def jl (i : Int) : Int64 := (iv i).toInt64
def al (o : Int) : Nat → Int64 := fun n => if n = 0 then jl o else 0
section XI
variable {p : Program} {l : Launch} {e : Env} {R : Room} {s : State} {m : MethodId} {args : Array Value} {below : List Frame} {meth : Method} {c : Code} {H : Heap} {locs : List Loc} {cells slots : Nat} {Q : State → Prop}
variable {cc : ByteArray} {pc : Nat} {ls : Array Slot} {rest : List Value} {D : va_G} {cl : List vw_C} {tys : List (ClassId × FieldType)} {ws : va_W} {A : Nat → Prop} {H0 : Heap} {a t : Nat}
theorem jv_glen (hexec : p.tables.exec = Jvm.exec) (hb : c.code = cc) (hT : va_T .int t 7 (fun j => .int (iv (gr (j : Int)))) A s s.heap) (hS : va_S A s.heap H locs) (hdg : decode cc pc = .ok (.arraylength, 1))
    (kk : W p l e R s m args below meth c H locs cells slots Q (F0 m (pc + 1) ls (.int (iv 7) :: rest))) : W p l e R s m args below meth c H locs cells slots Q (F0 m pc ls (.ref t :: rest)) :=
  va_tlen hexec hb hT hS (v := iv 7) (by decide) hdg kk
theorem jv_gald (hexec : p.tables.exec = Jvm.exec) (hb : c.code = cc) (hT : va_T .int t 7 (fun j => .int (iv (gr (j : Int)))) A s s.heap) (hS : va_S A s.heap H locs) {i : Int} (hin : 0 ≤ i ∧ i < 7) (hdg : decode cc pc = .ok (.iaload, 1))
    (kk : W p l e R s m args below meth c H locs cells slots Q (F0 m (pc + 1) ls (.int (iv (gr i)) :: rest))) : W p l e R s m args below meth c H locs cells slots Q (F0 m pc ls (.int (iv i) :: .ref t :: rest)) :=
  va_ti hexec hb hT hS (iv_in (n := 7) hin (by decide)) (v := .int (iv (gr i))) (by
    show Value.int (iv (gr (((iv i).toNatClampNeg : Nat) : Int))) = _
    rw [iv_cl (by omega), Int.toNat_of_nonneg hin.1]) hdg kk
theorem jv_last0 (hexec : p.tables.exec = Jvm.exec) (hb : c.code = cc) (hK : va_K D cl tys s) (hP : va_P D cl ws H) (hD : va_D A ws) (hS : va_S A H0 H locs) (q0 t0 : Nat) {cJ : ClassId} {o v : Int} (ha : ws[q0]? = some (a, .inl (cJ, 1, .inr (.inl (al o))))) (ht : tys[t0]? = some (cJ, .long)) (hdg : decode cc pc = .ok (.lastore, 1)) {ws' : va_W} (hw : ws.set q0 (a, .inl (cJ, 1, .inr (.inl (al v)))) = ws')
    (kk : ∀ (H1 : Heap) (locs1 : List Loc), va_P D cl ws' H1 → va_D A ws' → va_S A H0 H1 locs1 → W p l e R s m args below meth c H1 locs1 cells slots Q (F0 m (pc + 1) ls rest)) : W p l e R s m args below meth c H locs cells slots Q (F0 m pc ls (.long (jl v) :: .int (iv 0) :: .ref a :: rest)) :=
  va_last hexec hb hK hP hD hS q0 t0 ha ht (i := iv 0) (x := jl v) (iv_in (i := 0) (n := 1) (by decide) (by decide)) hdg (fun H1 locs1 h1 h2 h3 => by
    have e9 : vp_updL (al o) (iv 0).toNatClampNeg (jl v) = al v := by
      rw [show (iv 0).toNatClampNeg = 0 by decide]
      funext n
      by_cases hn : n = 0
      · subst hn; simp [vp_updL, al]
      · simp [vp_updL, al, hn]
    rw [e9, hw] at h1 h2
    exact kk H1 locs1 h1 h2 h3)
end XI
