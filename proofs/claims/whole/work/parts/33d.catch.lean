/-! into a handler of the method's own table -/
section XE
variable {p : Program} {l : Launch} {e : Env} {R : Room} {s : State} {m : MethodId} {args : Array Value} {below : List Frame} {meth : Method} {c : Code} {T : State} {H : Heap} {locs : List Loc} {cells slots : Nat} {Q : State → Prop}
theorem jx_row {K : Handler → Pre} {E : CtlPost} {d : Bool} {acts : List Action} {S : State} {f : JFrame} {q : Addr} {x : ExceptionTableEntry} {t : List ExceptionTableEntry} {k : ClassId} {ce : Cell} {b : Bool}
    (hx : covers x f.pc = true) (h0 : x.catchType ≠ 0) (hl : S.vm.ClassLinks e.platform f.method.cls x.catchType k) (hce : S.heap[q]? = some ce) (hv : ∀ z, ce.vm ≠ .statics z) (h1 : ∃ z, S.vm.classes[ce.cls]? = some z) (h2 : ∃ z, S.vm.classes[k]? = some z) (hb : S.vm.assignable ce.cls k = b) :
    wp (findHandler.go f q (x :: t)) K E e d acts S ↔ (if b = true then K (.found x.handlerPc) d acts (S.setVm (S.vm.noted f.method.cls x.catchType (.cls k))) else wp (findHandler.go f q t) K E e d acts (S.setVm (S.vm.noted f.method.cls x.catchType (.cls k)))) := by
  obtain ⟨g1, g2⟩ := (resolveClass_links e.toSetting hl).op (op := VmOp.resolveClass f.method.cls x.catchType) rfl
  have hal : S.vm.Alike (S.vm.noted f.method.cls x.catchType (.cls k)) := (Vm.Alike.refl S.vm).noted _ _ _
  obtain ⟨z1, h1⟩ := h1
  obtain ⟨z2, h2⟩ := h2
  obtain ⟨y1, h1, -⟩ := hal.2.2 _ _ h1
  obtain ⟨y2, h2, -⟩ := hal.2.2 _ _ h2
  have hb : (S.vm.noted f.method.cls x.catchType (.cls k)).assignable ce.cls k = b := by rw [hal.assignable]; exact hb
  simp only [covers] at hx
  cases b <;> simp [findHandler.go, hx, h0, g1, g2, hce, hv, h1, h2, hb, VmOp.dirties, VmOp.acts]
def jFT (e : Env) (S : State) (f : JFrame) (q : Addr) (h : Handler) (v : Vm) : Prop := ∀ (K : Handler → Pre) (E : CtlPost) (d : Bool) (acts : List Action), wp (findHandler f q) K E e d acts S ↔ K h d acts (S.setVm v)
theorem jx_step {S : State} {f : JFrame} {q hp : Nat} {r : List Frame} {v : Vm} (hf : jFT e S f q (.found hp) v) : (stepThrowing e S q (.java f :: r)).Is ((S.setVm v).setFrames (.java { f with pc := hp, stack := [.ref q] } :: r)) [] := by
  simp only [stepThrowing, searchFrame, vmDo]
  generalize hr : Sem.go _ e false [] S = res
  obtain ⟨as, rfl, ha⟩ := Sem.eq_ok_of hr (a := Handler.found hp) (s' := S.setVm v) (acts' := []) (by simp [hf _ _ _ _])
  exact ⟨rfl, ha⟩
theorem jx_into (X : Stand p l e R s m args below meth c T locs cells slots) {g : JFrame} {q hp : Nat} {v : Vm} (hg : g.method = m) (hf : jFT e ((T.setTop g).pushFrame (.throwing q)) g q (.found hp) v) {target : State}
    (h : Steps p.tables e below ((T.setVm v).setTop { g with pc := hp, stack := [.ref q] }) target) : Steps p.tables e below ((T.setTop g).pushFrame (.throwing q)) target := by
  subst hg
  obtain ⟨h1, h2⟩ := X.here.throwing q
  refine Steps.head h1 h2 ?_
  rw [stepThread_throwing (frames_entered X.here.top _), (jx_step hf).1]
  obtain ⟨g₀, hg⟩ := Option.isSome_iff_exists.mp X.here.top
  obtain ⟨r, hr⟩ := State.topJava?_eq_some.mp hg
  have e1 : ∀ (u : State) (F G : List Frame), ((u.setFrames F).setVm v).setFrames G = (u.setVm v).setFrames G := fun u F G => by
    rw [show (u.setFrames F).setVm v = (u.setVm v).setFrames F from rfl, State.setFrames_setFrames]
  have hr' : (T.setVm v).frames = .java g₀ :: r := hr
  rw [State.setTop_of_frames _ hr'] at h
  rw [hr, List.tail_cons, State.pushFrame, e1, State.setTop_of_frames _ hr, e1]
  exact h
theorem jx_link (X : Stand p l e R s m args below meth c T locs cells slots) {own name : String} {i : Nat} (hown : s.vm.findClass own = some m.cls) (hlink : (Cond.classLink own i name).before args s = true) :
    ∃ k, s.vm.findClass name = some k ∧ T.vm.ClassLinks e.platform m.cls i k ∧ (∃ z, T.vm.classes[k]? = some z) ∧ Stand p l e R s m args below meth c (T.setVm (T.vm.noted m.cls i (.cls k))) locs cells slots := by
  have hpl : e.platform.magicAccessors = ({} : Platform).magicAccessors := by rw [X.admits.platform]
  obtain ⟨k, hk, hcl⟩ := Cond.classLink_spec hown hlink e.platform hpl
  obtain ⟨dk, _, _, kt, hd, _, _, _, _, hkt, _, hopen⟩ := hcl.here
  obtain ⟨z, hz, -⟩ := X.warmed.alike.2.2 _ _ hkt
  exact ⟨k, hk, X.warmed.classLinks hcl, ⟨z, hz⟩, X.noted (X.warmed.noted hd hopen (State.rightAt_cls hcl))⟩
variable {q pc : Nat} {ls : Array Slot} {st : List Value} {ce : Cell} {own n1 n2 : String} {hh : List (Nat × Nat × Nat × Nat)}
/-- the first handler takes it -/
theorem jx_catch1 {a1 b1 h1 t1 : Nat} (hown : s.vm.findClass own = some m.cls) (hT : c.exceptionTable.toList.map (fun h => (h.startPc, h.endPc, h.handlerPc, h.catchType)) = (a1, b1, h1, t1) :: hh) (hin : a1 ≤ pc ∧ pc < b1) (ht : t1 ≠ 0)
    (hlink : (Cond.classLink own t1 n1).before args s = true) (hcast : (Cond.castable n1 n1).before #[] s = true) (hce : H[q]? = some ce) (hcv : ce.vm = .none) (hcc : s.vm.findClass n1 = some ce.cls)
    (kk : W p l e R s m args below meth c H locs cells slots Q (F0 m h1 ls [.ref q])) : jWX p l e R s m args below meth c H locs cells slots Q q (F0 m pc ls st) := by
  intro T hH X
  obtain ⟨x, r, hx, hxe, -⟩ := List.map_eq_cons_iff.mp hT
  have x1 : x.startPc = a1 := congrArg (fun z => z.1) hxe
  have x2 : x.endPc = b1 := congrArg (fun z => z.2.1) hxe
  have x3 : x.handlerPc = h1 := congrArg (fun z => z.2.2.1) hxe
  have x4 : x.catchType = t1 := congrArg (fun z => z.2.2.2) hxe
  obtain ⟨k, hk, hl, hz, X1⟩ := jx_link X hown hlink
  cases hcc.symm.trans hk
  obtain ⟨c1, c2, w1, w2, w3⟩ := Cond.castable_spec hcast
  cases hcc.symm.trans w1
  cases hcc.symm.trans w2
  obtain ⟨t2, s2, q2⟩ := kk (T.setVm (T.vm.noted m.cls t1 (.cls ce.cls))) hH X1
  refine ⟨t2, jx_into X (g := F0 m pc ls st) rfl (hp := h1) (v := T.vm.noted m.cls t1 (.cls ce.cls)) ?_ s2, q2⟩
  intro K E d acts
  rw [W.findHandler_eq (meth := meth) (code := c) X.method' X.code, hx,
    jx_row (S := (T.setTop (F0 m pc ls st)).pushFrame (.throwing q)) (f := F0 m pc ls st) (k := ce.cls) (ce := ce) (b := true) (by simp only [covers, x1, x2]; simpa using hin) (by rw [x4]; exact ht) (by rw [x4]; exact hl) (by rw [← hce, ← hH]; rfl) (fun z h => by rw [hcv] at h; cases h) hz hz (by
      show T.vm.assignable ce.cls ce.cls = true
      rw [X.warmed.alike.assignable]; exact w3), if_pos rfl, x3, x4]
  exact Iff.rfl
/-- the second handler takes it; the first one names another class -/
theorem jx_catch2 {a1 b1 h1 t1 a2 b2 h2 t2 : Nat} (hown : s.vm.findClass own = some m.cls) (hT : c.exceptionTable.toList.map (fun h => (h.startPc, h.endPc, h.handlerPc, h.catchType)) = (a1, b1, h1, t1) :: (a2, b2, h2, t2) :: hh) (hin : a1 ≤ pc ∧ pc < b1) (hin2 : a2 ≤ pc ∧ pc < b2) (ht : t1 ≠ 0) (ht2 : t2 ≠ 0)
    (hlink : (Cond.classLink own t1 n1).before args s = true) (hlink2 : (Cond.classLink own t2 n2).before args s = true) (hno : ∀ c1 c2 : ClassId, s.vm.findClass n2 = some c1 → s.vm.findClass n1 = some c2 → s.vm.assignable c1 c2 = false) (hcast : (Cond.castable n2 n2).before #[] s = true) (hce : H[q]? = some ce) (hcv : ce.vm = .none) (hcc : s.vm.findClass n2 = some ce.cls)
    (kk : W p l e R s m args below meth c H locs cells slots Q (F0 m h2 ls [.ref q])) : jWX p l e R s m args below meth c H locs cells slots Q q (F0 m pc ls st) := by
  intro T hH X
  obtain ⟨x, r0, hx, hxe, hr0⟩ := List.map_eq_cons_iff.mp hT
  obtain ⟨y, r, hy, hye, -⟩ := List.map_eq_cons_iff.mp hr0
  subst hy
  have x1 : x.startPc = a1 := congrArg (fun z => z.1) hxe
  have x2 : x.endPc = b1 := congrArg (fun z => z.2.1) hxe
  have x4 : x.catchType = t1 := congrArg (fun z => z.2.2.2) hxe
  have y1 : y.startPc = a2 := congrArg (fun z => z.1) hye
  have y2 : y.endPc = b2 := congrArg (fun z => z.2.1) hye
  have y3 : y.handlerPc = h2 := congrArg (fun z => z.2.2.1) hye
  have y4 : y.catchType = t2 := congrArg (fun z => z.2.2.2) hye
  subst x4; subst y3; subst y4
  obtain ⟨k1, hk1, hl1, hz1, X1⟩ := jx_link X hown hlink
  obtain ⟨k, hk, hl, hz, X2⟩ := jx_link X1 hown hlink2
  cases hcc.symm.trans hk
  obtain ⟨c1, c2, w1, w2, w3⟩ := Cond.castable_spec hcast
  cases hcc.symm.trans w1
  cases hcc.symm.trans w2
  obtain ⟨u2, s2, q2⟩ := kk ((T.setVm (T.vm.noted m.cls x.catchType (.cls k1))).setVm ((T.setVm (T.vm.noted m.cls x.catchType (.cls k1))).vm.noted m.cls y.catchType (.cls ce.cls))) hH X2
  obtain ⟨z9, hz9⟩ := hz
  obtain ⟨z8, hz8, -⟩ := X1.warmed.alike.symm.2.2 _ _ hz9
  obtain ⟨z0, hz0, -⟩ := X.warmed.alike.2.2 _ _ hz8
  refine ⟨u2, jx_into X (g := F0 m pc ls st) rfl (hp := y.handlerPc) (v := (T.vm.noted m.cls x.catchType (.cls k1)).noted m.cls y.catchType (.cls ce.cls)) ?_ s2, q2⟩
  intro K E d acts
  have r1 := jx_row (e := e) (K := K) (E := E) (d := d) (acts := acts) (S := (T.setTop (F0 m pc ls st)).pushFrame (.throwing q)) (f := F0 m pc ls st) (q := q) (x := x) (t := y :: r) (k := k1) (ce := ce) (b := false) (by simp only [covers, x1, x2]; simpa using hin) ht hl1 (by rw [← hce, ← hH]; rfl) (fun z h => by rw [hcv] at h; cases h) ⟨z0, hz0⟩ hz1 (by
      show T.vm.assignable ce.cls k1 = false
      rw [X.warmed.alike.assignable]; exact hno _ _ hcc hk1)
  have r2 := jx_row (e := e) (K := K) (E := E) (d := d) (acts := acts) (S := ((T.setTop (F0 m pc ls st)).pushFrame (.throwing q)).setVm (T.vm.noted m.cls x.catchType (.cls k1))) (f := F0 m pc ls st) (q := q) (x := y) (t := r) (k := ce.cls) (ce := ce) (b := true) (by simp only [covers, y1, y2]; simpa using hin2) ht2 hl (by rw [← hce, ← hH]; rfl) (fun z h => by rw [hcv] at h; cases h) ⟨z9, hz9⟩ ⟨z9, hz9⟩ (by
      show (T.vm.noted m.cls x.catchType (.cls k1)).assignable ce.cls ce.cls = true
      exact (X1.warmed.alike.assignable _ _).trans w3)
  rw [if_neg (by decide)] at r1
  rw [if_pos rfl] at r2
  rw [W.findHandler_eq (meth := meth) (code := c) X.method' X.code, hx]
  exact r1.trans r2
end XE
