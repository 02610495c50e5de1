section XC
variable {p : Program} {l : Launch} {e : Env} {R : Room} {s : State} {m : MethodId} {args : Array Value} {below : List Frame} {meth : Method} {c : Code} {H : Heap} {locs : List Loc} {cells slots : Nat} {Q : State → Prop}
theorem jx_same {s t : State} {k n : Nat} (h : s.sameButNew t [] k n) : ∀ q : Nat, q < s.heap.size → t.heap[q]? = s.heap[q]? := by
  intro q hq
  obtain ⟨-, -, -, -, -, h6⟩ := h
  have hc : s.heap[q]? = some s.heap[q] := Array.getElem?_eq_getElem hq
  obtain ⟨c', h1, h2, h3, h4⟩ := h6 q _ hc
  rw [h1, hc, h2]
  have : c'.slots = (s.heap[q]).slots := Array.ext_getElem? (fun i => h4 i (by simp))
  rw [this]
set_option maxHeartbeats 1000000 in
/-- 'throw new X("text")', from 'new' to the method's end -/
theorem jx_throw {cc : ByteArray} {own cls text : String} {ik is ic pc : Nat} {ls : Array Slot} {rest : List Value} {A : Nat → Prop} {Qx : Nat → State → State → Prop} {free : Addr → Prop}
    (hexec : p.tables.exec = Jvm.exec) (hb : c.code = cc) (hfl : l.flags = pinnedFlags ++ [noTraceFlag]) (hlocks : meth.locks = false) (hE : c.exceptionTable.toList = []) (hml : ls.size = c.maxLocals)
    (hown : s.vm.findClass own = some m.cls) (hw0 : ∀ w ∈ WS0, w.before args s = true) (hX : jX A s) (hS : va_S A s.heap H locs)
    (hat : ∀ a ∈ Bundle.ownAtoms own ic cls xNames, a ∈ WS0 ∨ a ∈ jXF ∨ a ∈ jXV) (hcls : Bundle.fit cls = true) (hk : Cond.classLink own ik cls ∈ WS0) (hini : Cond.initialized cls ∈ WS0) (ho : own = "TextPipeline") (hs : (is, text) ∈ jXS)
    (d0 : decode cc pc = .ok (.new ik, 3)) (d3 : decode cc (pc + 3) = .ok (.dup, 1)) (d4 : decode cc (pc + 4) = .ok (.ldc is, 2)) (d6 : decode cc (pc + 6) = .ok (.invokespecial ic, 3)) (d9 : decode cc (pc + 9) = .ok (.athrow, 1))
    (hRf : 6 ≤ R.frames) (hRl : (rest.map fun v => v.category).sum + 90 ≤ R.locals) (hRc : cells + 1 ≤ R.cells) (hRs : slots + 6 ≤ R.slots)
    (hq : ∀ (t : State) (ce : Cell), (∀ q : Nat, q < H.size → t.heap[q]? = H[q]?) → H.size ≤ t.heap.size → t.heap[H.size]? = some ce → ce.vm = .none → t.vm.findClass cls = some ce.cls → s.WarmedH t.vm → Qx H.size s t) (hf : ∀ z ∈ locs, free z.base) :
    W p l e R s m args below meth c H locs cells slots (jQX below Qx s (cells + 1) (slots + 6) free) (F0 m pc ls rest) := by
  intro T hT X
  obtain ⟨s', e1, e2, X', hback⟩ := jx_anew X (k := 1) (n := 6) hRc hRs
  have hW' : s.WarmedH s'.vm := by rw [e2]; exact X.warmed
  have hz : s'.heap.size = T.heap.size := by rw [e1]
  have hX' : jX A s' := hX.moved hW' (fun a h1 h2 => by rw [e1, hT]; exact hS.2.1 a h1 h2) (by rw [e1, hT]; exact hS.1) (fun _ h => h)
  have hw' : ∀ w ∈ WS0, w.before args s' = true := fun w hw => word_at hW' (good_of_word (ws0_good _ hw)) (hw0 w hw)
  have hown' : s'.vm.findClass own = some m.cls := by rw [e2, X.warmed.alike.findClass]; exact hown
  have ha : ∀ a ∈ Bundle.ownAtoms own ic cls xNames, a.before args s' = true := fun a h => jx_at hX' hw' (hat a h)
  have hs' : (Cond.stringRef own is text).before args s' = true := by
    have h1 := hX'.2.1 _ hs
    rw [ho]
    simp only [Cond.before, Cond.holds, Cond.value] at h1 ⊢
    exact h1
  obtain ⟨vm₁, cX, kX, hfX, hkX, -, -, X₁, st1⟩ := X'.newCold hexec (own := own) (C := cls) (index := ik) (n := 6) hown' (hw' _ hk) (ha (.instantiable cls 6) (by simp [Bundle.ownAtoms])) (hw' _ hini)
    (g := F0 m pc ls rest) rfl (by rw [hb]; exact d0) (by show 0 + 1 ≤ 1; omega) (by show 0 + 6 ≤ 6; omega)
  generalize hT1 : (T.setVm vm₁).pushCell { cls := cX, slots := kX.instanceTypes.map defaultValue, vm := .none } = T₁ at X₁ st1
  have hcellA : T₁.heap[T.heap.size]? = some (freshCell cX kX) := by rw [← hT1]; exact State.heap_pushCell_size _ _
  obtain ⟨-, -, -, sa, -, -, -, -, -, hev⟩ := Cond.stringRef_spec hown' hs'
  have hcat : (Value.ref T.heap.size).category = 1 := rfl
  obtain ⟨U, hsteps, hrun, hend, hW, hsame, ce, hce, hoc⟩ := X₁.ctorThrowS hexec (Launch.traces_off hfl X.admits) (own := own) (cls := cls) (names := xNames) (ic := ic) hown' hcls (by decide) ha (fun x hx => by cases hx)
    hfX hkX hcellA (by rw [hz]; exact Nat.le_refl _) (msg := .ref sa) rfl
    (g := F0 m (pc + 6) ls (.ref sa :: .ref T.heap.size :: .ref T.heap.size :: rest)) rfl hml rfl rfl (rest := rest) rfl (by rw [hb]; exact d6) (by rw [hb]; exact d9) (fun x hx => by rw [hE] at hx; cases hx)
    (by show 2 + 3 < R.frames; omega) (by show 2 * 0 + _ + _ ≤ R.locals; simp only [List.map_cons, List.sum_cons, hcat]; show _ + (13 * (2 + 1) + 42) ≤ _; omega)
  have hbk := hback U [] _ _ ⟨hW, hsame⟩
  have hkeep := jx_same hsame
  refine ⟨U, ?_, T.heap.size, hrun, hend, ?_, locs, ?_, hf⟩
  · refine st1 _ ?_
    show Steps p.tables e below (T₁.setTop (F0 m (pc + 3) ls (.ref T.heap.size :: rest))) _
    have d3' : decode c.code (pc + 3) = .ok (.dup, 1) := by rw [hb]; exact d3
    jvm_step X₁.here [X₁.here.top, hexec, d3', Value.category]
    exact X₁.ldcString hexec (own := own) (text := text) (index := is) (a := sa) hown' hs' hev
      (g := F0 m (pc + 4) ls (.ref T.heap.size :: .ref T.heap.size :: rest)) rfl (by rw [hb]; exact d4) _ hsteps
  · rw [hT]
    refine hq U ce (fun q h => ?_) ?_ (by rw [← hT]; exact hce) hoc.vm ?_ (State.WarmedH.trans hW' hW)
    · rw [← hT] at h ⊢
      rw [← e1]
      exact hkeep q (by rw [hz]; exact h)
    · rw [← hT, ← hz]; exact hsame.2.1
    · rw [hW.alike.findClass]; exact hoc.cls
  · simpa using hbk
end XC
section XD
variable {p : Program} {l : Launch} {e : Env} {R : Room} {s : State} {m : MethodId} {args : Array Value} {below : List Frame} {meth : Method} {c : Code} {H : Heap} {locs : List Loc} {cells slots : Nat} {Q : State → Prop}
/-- a call that throws: the exception lies over the caller's frame -/
def jXR (p : Program) (l : Launch) (e : Env) (R : Room) (s : State) (m : MethodId) (args : Array Value) (below : List Frame) (meth : Method) (c : Code) (H : Heap) (locs : List Loc) (cells slots mc ms : Nat) (g : JFrame) (rest : List Value) (Qx : Nat → State → State → Prop) (free : Addr → Prop) : Prop :=
  ∀ T : State, T.heap = H → Stand p l e R s m args below meth c T locs cells slots → ∃ (q : Nat) (st₀ t T' : State) (L : List Loc), st₀.heap = H ∧ Stand p l e R s m args below meth c T' (locs ++ L) (cells + mc) (slots + ms) ∧ (∀ z ∈ L, free z.base) ∧ T'.heap = t.heap ∧ T'.vm = t.vm ∧ Qx q st₀ t ∧
    ∀ target, Steps p.tables e below ((T'.setTop { g with stack := rest }).pushFrame (.throwing q)) target → Steps p.tables e below (T.setTop g) target
theorem jx_back {y : MethodName} {ws : List Cond} {rm : Room} {Pc : Array Value → State → Prop} {Qx : Nat → State → State → Prop} {mc ms maxL len W : Nat} {free : Addr → Prop} {bytes : ByteArray} {ret : Option FieldType} {T : State} {g : JFrame} {ig : Instr} {mk : MethodId} {a : Array Value}
    (hM : jMX l y ws rm Pc Qx mc ms free) (hblind : FrameBlind Pc) (hrc : rm.cells = mc) (hrs : rm.slots = ms) (hframes : rm.frames + 1 ≤ R.frames) (hlocals : W + (maxL + 11) + rm.locals ≤ R.locals)
    (hws : ∀ w ∈ ws, ∀ a' U, s.WarmedH U.vm → w.before a' U = true) (hcode : Cond.code y bytes maxL ret ∈ ws) (hinit : ∀ a' U, s.WarmedH U.vm → (Cond.initialized y.cls).before a' U = true)
    (X : Stand p l e R s m args below meth c T locs cells slots) (hg : g.method = m) (hsize : g.locals.size = c.maxLocals) (hdg : decode c.code g.pc = .ok (ig, len)) (hW : 2 * g.monitorRoom + (g.stack.map fun v => v.category).sum ≤ W)
    (hn : T.methodNamed? y = some mk) (hc : cells + mc ≤ R.cells) (hs : slots + ms ≤ R.slots) (hp : Pc a T) :
    ∃ (q : Nat) (t T' : State) (L : List Loc), Stand p l e R s m args below meth c T' (locs ++ L) (cells + mc) (slots + ms) ∧ (∀ z ∈ L, free z.base) ∧ T'.heap = t.heap ∧ T'.vm = t.vm ∧ Qx q (T.calling g mk a) t ∧
      Steps p.tables e below (doInvoke e (T.setTop g) [] mk a).1 ((T'.setTop g).pushFrame (.throwing q)) := by
  have h2 := hws _ hcode a T X.warmed
  obtain ⟨methY, cY, hmY, hcY, -, hlY, -, -, -, -⟩ := Cond.code_spec hn h2
  obtain ⟨kY, hkY, -⟩ := className_of_methodNamed hn
  have hinitY : kY.init = .initialized := Cond.initialized_spec (findClass_of_methodNamed hn) hkY (hinit a T X.warmed)
  have h : At T g.method c below := by rw [hg]; exact X.here
  have happ : (headSpec ws rm).appliesLoose y e.platform (T.calling g mk a) = true :=
    Spec.appliesLoose_calling (g := g) h hdg hn hkY hinitY
      (X.room_calling (g := g) (R' := rm) hsize hmY hcY hframes (by rw [hlY]; omega) (by rw [hrc]; exact hc) (by rw [hrs]; exact hs)) (atoms_intro fun w hw => hws w hw _ _ X.warmed)
  obtain ⟨mid, hmid⟩ := h.above
  have hfr : (T.setTop g).frames = (.java g :: mid) ++ below := by rw [State.frames_setTop' g h.top, hmid]; rfl
  obtain ⟨o, s₂, hsteps, -, hend, hq⟩ := Steps.callFree hM p X.admits X.cas X.clock (acts := []) hfr happ (hblind _ _ _ _ hp) trivial
  obtain ⟨q, rfl, hQ, L, ⟨hW₂, f1, f2, f3, f4, f5, f6⟩, hL⟩ := hq
  have hend' : s₂.frames = .throwing q :: (T.setTop g).frames := hend
  have hW' : T.WarmedH s₂.vm := hW₂
  obtain ⟨g₀, hg0⟩ := Option.isSome_iff_exists.mp h.top
  obtain ⟨r, hr⟩ := State.topJava?_eq_some.mp hg0
  have e3 : s₂ = ({ (T.calling g mk a).setFrames s₂.frames with heap := s₂.heap, slotsUsed := s₂.slotsUsed } : State).setVm s₂.vm := by
    have : s₂ = ({ s₂ with vm := (T.calling g mk a).vm } : State).setVm s₂.vm := rfl
    rw [show ({ s₂ with vm := (T.calling g mk a).vm } : State) = _ from f1] at this
    exact this
  have hr' : (({ T with heap := s₂.heap, slotsUsed := s₂.slotsUsed } : State).setVm s₂.vm).frames = .java g₀ :: r := hr
  have hs₂ : s₂ = ((({ T with heap := s₂.heap, slotsUsed := s₂.slotsUsed } : State).setVm s₂.vm).setTop g).pushFrame (.throwing q) := by
    refine e3.trans ?_
    rw [hend', State.calling_eq h.top, State.setFrames_setFrames, State.setTop_of_frames _ hr', State.pushFrame, State.setFrames_setFrames, State.frames_setTop' g h.top, hr]
    have hcur := State.cur_lt_of_frames hr'
    rw [State.frames_setFrames _ hcur]
    rfl
  have hsame : T.sameButNew ({ T with heap := s₂.heap, slotsUsed := s₂.slotsUsed } : State) L mc ms := by
    refine ⟨?_, f2, f3, f4, f5, f6⟩
    obtain ⟨t, ht, -⟩ := State.frames_cons hr
    show ({ T with heap := s₂.heap, slotsUsed := s₂.slotsUsed } : State) = { T.setFrames T.frames with heap := s₂.heap, slotsUsed := s₂.slotsUsed }
    rw [State.setFrames_self ht]
  subst hg
  refine ⟨q, s₂, ({ T with heap := s₂.heap, slotsUsed := s₂.slotsUsed } : State).setVm s₂.vm, L,
    ⟨X.admits, X.cas, X.clock, X.frames, X.room, X.hears, X.method, X.code, (X.here.setHeapUsed s₂.heap s₂.slotsUsed).setVm hW'.alike, X.tail, State.WarmedH.trans X.warmed hW', X.limits, X.bytes, X.same.trans (hsame.setVm s.vm)⟩, hL, rfl, rfl, hQ, ?_⟩
  rw [← hs₂]
  exact hsteps
variable {y : MethodName} {bytes cc : ByteArray} {maxL nL mc ms n index : Nat} {ret : Option FieldType} {ws : List Cond} {rm : Room} {Pc : Array Value → State → Prop} {Qx : Nat → State → State → Prop} {free : Addr → Prop} {Ts : List Cond} {own C : String} {b : Addr} {As rest : List Value} {g : JFrame}
theorem jx_runV (S : CallFix p m c cc nL s args Ts own) (hM : jMX l y ws rm Pc Qx mc ms free) (cw : CallW R s args own C index y bytes maxL ret ws rm mc ms n) (hp : PreV s H C b Pc As)
    (hg : g.method = m) (hn : As.length = n) (hsize : g.locals.size = nL) (hstack : g.stack = As.reverse ++ .ref b :: rest) (hW : 2 * g.monitorRoom + (rest.map fun v => v.category).sum ≤ 8) (hdg : decode cc g.pc = .ok (.invokevirtual index, 3)) (hf : cells + mc ≤ R.cells ∧ slots + ms ≤ R.slots) :
    jXR p l e R s m args below meth c H locs cells slots mc ms g rest Qx free := by
  obtain ⟨⟨hrc, hrs, hfr, hlo, hws, hcw, hcode, hini, hy, hlen, hl⟩, hin, hse⟩ := cw
  obtain ⟨hx, hb, hml, ho, -⟩ := S
  obtain ⟨hbl, ⟨cellB, hcB, hoB, hclB⟩, hPc⟩ := hp
  intro T hT X
  obtain ⟨mk, methM, hnamed, hmethM, hstM, habM⟩ := Cond.instanceMethod_spec hin
  obtain ⟨methM', cM, hmethM', -, -, -, -, -, -, hsigM⟩ := Cond.code_spec hnamed hcode
  cases hmethM.symm.trans hmethM'
  obtain ⟨c2, r2, m2, q1, q2, q3, q4, kP, hkP, hkPi⟩ := Cond.selects_spec hse
  cases hclB.symm.trans q1
  cases (State.methodFound?_of_named hnamed hy).symm.trans q2
  cases hnamed.symm.trans q3
  have hselP : selectMethod e.platform s.vm cellB.cls mk = .method mk := by rw [Launch.admits_selectMethod X.admits]; exact q4
  obtain ⟨vm₁, X₁, hstep₁⟩ := X.invokevirtual hx ho hl hnamed hmethM hstM hkP hkPi hy (a := b) (cell := cellB) (by rw [hT]; exact hcB)
    (fun z h => by rw [h] at hoB; cases hoB) hselP hmethM habM hkP hkPi (g := g) hg (argsL := As) (rest := rest) (hn.trans (hlen _ hsigM)) hstack (by rw [hb]; exact hdg)
  obtain ⟨q, t, T', L, X', hL, e1, e2, hQ, hsteps⟩ := jx_back (g := { g with stack := rest }) (ig := .invokevirtual index) (len := 3) (W := 8) hM hbl hrc hrs hfr hlo hws hcw (fun a' U hW => word_at hW (Or.inl (by first | rfl | simp [Cond.onTables, Cond.keeps, Cond.steady])) hini)
    X₁ hg (hsize.trans hml.symm) (by rw [hb]; exact hdg) hW (X₁.named hnamed) hf.1 hf.2 (hPc (T.setVm vm₁) hT X₁.warmed)
  exact ⟨q, (T.setVm vm₁).calling { g with stack := rest } mk (Value.ref b :: As).toArray, t, T', L, hT, X', hL, e1, e2, hQ, fun target h => hstep₁ _ fun acts => by rw [doInvoke_state]; exact hsteps.trans h⟩
theorem jx_runS (S : CallFix p m c cc nL s args Ts own) (hM : jMX l y ws rm Pc Qx mc ms free) (cw : CallB R s args own index y bytes maxL ret ws rm mc ms n ∧ (Cond.static y).before args s = true) (hp : PreS s H Pc As)
    (hg : g.method = m) (hn : As.length = n) (hsize : g.locals.size = nL) (hstack : g.stack = As.reverse ++ rest) (hW : 2 * g.monitorRoom + (rest.map fun v => v.category).sum ≤ 8) (hdg : decode cc g.pc = .ok (.invokestatic index, 3)) (hf : cells + mc ≤ R.cells ∧ slots + ms ≤ R.slots) :
    jXR p l e R s m args below meth c H locs cells slots mc ms g rest Qx free := by
  obtain ⟨⟨hrc, hrs, hfr, hlo, hws, hcw, hcode, hini, hy, hlen, hl⟩, hst⟩ := cw
  obtain ⟨hx, hb, hml, ho, -⟩ := S
  obtain ⟨hbl, hPc⟩ := hp
  intro T hT X
  obtain ⟨mk, hnamed⟩ := Cond.code_named hcode
  obtain ⟨methM, cM, hmethM, -, -, -, -, -, -, hsigM⟩ := Cond.code_spec hnamed hcode
  have hstatic : methM.isStatic = true := Cond.static_spec hnamed hmethM hst
  obtain ⟨kP, hkP, -⟩ := className_of_methodNamed hnamed
  have hinitP : kP.init = .initialized := Cond.initialized_spec (findClass_of_methodNamed hnamed) hkP hini
  obtain ⟨vm₁, X₁, hstep₁⟩ := X.invokestatic hx ho hl hnamed hmethM hstatic hkP hinitP hy (g := g) hg (argsL := As) (rest := rest) (hn.trans (hlen _ hsigM)) hstack (by rw [hb]; exact hdg)
  obtain ⟨q, t, T', L, X', hL, e1, e2, hQ, hsteps⟩ := jx_back (g := { g with stack := rest }) (ig := .invokestatic index) (len := 3) (W := 8) hM hbl hrc hrs hfr hlo hws hcw (fun a' U hW => word_at hW (Or.inl (by first | rfl | simp [Cond.onTables, Cond.keeps, Cond.steady])) hini)
    X₁ hg (hsize.trans hml.symm) (by rw [hb]; exact hdg) hW (X₁.named hnamed) hf.1 hf.2 (hPc (T.setVm vm₁) hT X₁.warmed)
  exact ⟨q, (T.setVm vm₁).calling { g with stack := rest } mk As.toArray, t, T', L, hT, X', hL, e1, e2, hQ, fun target h => hstep₁ _ fun acts => by rw [doInvoke_state]; exact hsteps.trans h⟩
/-- a thrower's end, by pictures -/
def jPX {S : Type} (cls : String) (post : S → Prop) (B : S → State → Prop) (A : Nat → Prop) : Nat → State → State → Prop := fun q st t =>
  (∃ u : S, post u ∧ B u t) ∧ va_F A st t ∧ ∃ ce : Cell, t.heap[q]? = some ce ∧ ce.vm = .none ∧ t.vm.findClass cls = some ce.cls
theorem jx_rx {S : Type} {cls : String} {post : S → Prop} {D : va_G} {tys : List (ClassId × FieldType)} {wb wc wr : va_W} {A : Nat → Prop} {pc : Nat} {ls : Array Slot} {st0 : List Value} {w1 wn : S → va_W} (hr : jXR p l e R s m args below meth c H locs cells slots mc ms (F0 m pc ls st0) rest (jPX cls post (fun u => jEnd D tys (va_A wc H.size) (w1 u)) (va_A wc H.size)) (va_A wc H.size))
    (hP : va_P D vwCl wb H) (hD : va_D A wb) (hS : va_S A s.heap H locs) (hA : ∀ q, s.heap.size ≤ q → A q)
    (isC isR isN : List Nat) (hC : isC.map (fun i => wb[i]?) = wc.map some) (hR : isR.map (fun i => wb[i]?) = wr.map some) (hn : va_nd isR = true) (hdis : ∀ i ∈ isR, i ∉ isC) (hnN : va_nd isN = true) (hN : ∀ u, isN.map (fun i => (wr ++ w1 u)[i]?) = (wn u).map some)
    (kk : ∀ (q : Nat) (u : S) (H1 : Heap) (locs1 : List Loc) (ce : Cell), post u → va_P D vwCl (wn u) H1 → va_D A (wn u) → va_S A s.heap H1 locs1 → H1[q]? = some ce → ce.vm = .none → s.vm.findClass cls = some ce.cls → jWX p l e R s m args below meth c H1 locs1 (cells + mc) (slots + ms) Q q (F0 m pc ls rest)) : W p l e R s m args below meth c H locs cells slots Q (F0 m pc ls st0) := by
  have hF := va_free (wc := wc) hD hS hA isC hC
  intro T hT X
  obtain ⟨q, st₀, t, T', L, h0, X', hL, e1, e2, ⟨⟨u, hp, hP1, hK1, hD1⟩, ⟨hz, hk⟩, ce, hce, hcv, hcc⟩, st⟩ := hr T hT X
  rw [h0] at hz hk
  rw [← e1] at hP1 hk hz hce
  obtain ⟨h1, h2⟩ := va_join (wr := wr) (w1 := w1 u) hP hD isC isR hC hR hn hdis hk hF hP1 hD1
  obtain ⟨t2, a1, b1⟩ := kk q u T'.heap (locs ++ L) ce hp (h1.sub isN (jv_pick (hN u))) (h2.sub isN hnN (hN u))
    ⟨Nat.le_trans hS.1 hz, fun q h1 h2 => by rw [hk q (Nat.lt_of_lt_of_le h1 hS.1) (fun z => h2 (hF q z))]; exact hS.2.1 q h1 h2, fun q hq => by
      rcases List.mem_append.mp hq with h | h
      · exact hS.2.2 q h
      · exact hF _ (hL q h)⟩ hce hcv (by rw [← e2, X'.warmed.alike.findClass] at hcc; exact hcc) T' rfl X'
  exact ⟨t2, st t2 a1, b1⟩
end XD
