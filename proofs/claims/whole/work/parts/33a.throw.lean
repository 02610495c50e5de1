/-! throwing: the walk with an exception over its frame; a contract of a method that throws -/
section XA
variable {p : Program} {l : Launch} {e : Env} {R : Room} {s : State} {m : MethodId} {args : Array Value} {below : List Frame} {meth : Method} {c : Code} {T : State} {H : Heap} {locs : List Loc} {cells slots : Nat} {Q : State → Prop}
/-- as W, with the exception at q on its way over the frame g -/
def jWX (p : Program) (l : Launch) (e : Env) (R : Room) (s : State) (m : MethodId) (args : Array Value) (below : List Frame) (meth : Method) (c : Code) (H : Heap) (locs : List Loc) (cells slots : Nat) (Q : State → Prop) (q : Nat) (g : JFrame) : Prop :=
  ∀ T : State, T.heap = H → Stand p l e R s m args below meth c T locs cells slots → ∃ t, Steps p.tables e below ((T.setTop g).pushFrame (.throwing q)) t ∧ Q t
def jFE (st t : State) (L : List Loc) (k n : Nat) : Prop := st.WarmedH t.vm ∧ st.sameButNew ({ t with vm := st.vm } : State) L k n
def jMX (l : Launch) (y : MethodName) (ws : List Cond) (rm : Room) (Pc : Array Value → State → Prop) (Qx : Nat → State → State → Prop) (mc ms : Nat) (free : Addr → Prop) : Prop :=
  MetFree l y (headSpec ws rm) Pc (fun _ _ _ _ _ => True) (fun _ st o t => ∃ q, o = .threw q ∧ Qx q st t ∧ ∃ L, jFE st t L mc ms ∧ ∀ z ∈ L, free z.base)
def jQX (below : List Frame) (Qx : Nat → State → State → Prop) (s : State) (mc ms : Nat) (free : Addr → Prop) : State → Prop := fun t =>
  ∃ q, t.status = .running ∧ Ended t below (.threw q) ∧ Qx q s t ∧ ∃ L, jFE s t L mc ms ∧ ∀ z ∈ L, free z.base
theorem jx_ofW {y : MethodName} {ws ws' : List Cond} {rm : Room} {Pc : Array Value → State → Prop} {Qx : Nat → State → State → Prop} {mc ms : Nat} {free : Addr → Prop} {cc : ByteArray} {maxL : Nat} {ret : Option FieldType}
    (hy : plainName y.cls = true) (hw : ws = Cond.code y cc maxL ret :: ws')
    (body : ∀ p e s m args below meth c s₁, BodyLoose p l y (headSpec ws rm) cc maxL ret e s m args below meth c s₁ → c.maxLocals = maxL → Pc args s → c.exceptionTable.toList = [] →
      W p l e (headSpec ws rm).room s m args below meth c s.heap [] 0 0 (jQX below Qx s mc ms free) (entryFrame m args maxL)) : jMX l y ws rm Pc Qx mc ms free := by
  refine MetFree.of_bodyS (code := cc) (maxLocals := maxL) (ret := ret) hy ?_ ?_
  · intro args s m h hn
    obtain ⟨meth, c, h1, h2, h3, h4, h5, h6, -, -⟩ := Cond.code_spec hn (atoms_spec (ws := ws) h _ (by rw [hw]; exact List.mem_cons_self))
    exact ⟨meth, c, h1, h2, h3, h4, h5, h6⟩
  · intro p e s m args below meth c s₁ B hml hP _
    have hh0 : s₁.heap = s.heap := by rw [B.state]; rfl
    have hE : c.exceptionTable.toList = [] := by
      obtain ⟨meth', c', hm', hc', -, -, -, -, he, -⟩ := Cond.code_spec B.named (atoms_spec (ws := ws) B.pre _ (by rw [hw]; exact List.mem_cons_self))
      cases B.method.symm.trans hm'
      cases (Stand.of_body B).code.symm.trans hc'
      have h0 : c.exceptionTable.size = 0 := by simpa [Array.isEmpty] using he
      exact List.eq_nil_of_length_eq_zero (by simpa using h0)
    obtain ⟨t, a1, q, b1, b2, b3, b4⟩ := body p e s m args below meth c s₁ B hml hP hE s₁ hh0 (Stand.of_body B)
    exact ⟨t, .threw q, a1, b1, b2, q, rfl, b3, b4⟩
/-- the exception leaves the method -/
theorem jx_out {Qx : Nat → State → State → Prop} {free : Addr → Prop} {q pc : Nat} {ls : Array Slot} {st : List Value} (hlocks : meth.locks = false) (hE : c.exceptionTable.toList = [])
    (hq : ∀ t : State, t.heap = H → s.WarmedH t.vm → Qx q s t) (hf : ∀ z ∈ locs, free z.base) : jWX p l e R s m args below meth c H locs cells slots (jQX below Qx s cells slots free) q (F0 m pc ls st) := by
  intro T hT X
  obtain ⟨h1, h2, h3, h4, h5⟩ := X.leaveThrown q (g := F0 m pc ls st) rfl rfl rfl (fun x hx => by rw [hE] at hx; cases hx)
  exact ⟨_, h1, q, h2, h3, hq _ hT h4, locs, ⟨h4, h5⟩, hf⟩
/-- the walk, begun anew where it stands -/
theorem jx_anew (X : Stand p l e R s m args below meth c T locs cells slots) {k n : Nat} (hk : cells + k ≤ R.cells) (hn : slots + n ≤ R.slots) :
    ∃ s' : State, s'.heap = T.heap ∧ s'.vm = T.vm ∧ Stand p l e { R with cells := k, slots := n } s' m args below meth c T [] 0 0 ∧
      ∀ (t : State) (L : List Loc) (k' n' : Nat), jFE s' t L k' n' → jFE s t (locs ++ L) (cells + k') (slots + n') := by
  refine ⟨{ s with heap := T.heap, slotsUsed := T.slotsUsed, vm := T.vm }, rfl, rfl, ?_, ?_⟩
  · have hT : T = { ({ s with heap := T.heap, slotsUsed := T.slotsUsed, vm := T.vm } : State).setFrames T.frames with heap := T.heap, slotsUsed := T.slotsUsed } := by
      have h1 : T = (T.setVm s.vm).setVm T.vm := rfl
      have h2 := X.same.1
      rw [h2] at h1
      exact h1
    refine ⟨X.admits, X.cas, X.clock, X.frames, ?_, ?_, X.method', X.code, X.here, X.tail, State.WarmedH.refl _, X.limits, X.bytes, ?_⟩
    · have hr := X.room
      have hb := X.book
      have h1 := X.heapSize
      have h2 := X.used
      have e1 := State.localsInUse_invoking X.frames X.method X.code
      have e2 := State.localsInUse_invoking (s := ({ s with heap := T.heap, slotsUsed := T.slotsUsed, vm := T.vm } : State)) X.frames X.method' X.code
      simp only [State.hasRoom, Bool.and_eq_true, decide_eq_true_eq] at hr ⊢
      obtain ⟨⟨⟨⟨r1, r2⟩, r3⟩, r4⟩, r5⟩ := hr
      rw [e1] at r1 r2
      rw [e2]
      refine ⟨⟨⟨⟨r1, r2⟩, ?_⟩, ?_⟩, hb⟩
      · show T.heap.size + k ≤ _; omega
      · show T.slotsUsed + n ≤ _; omega
    · have hh := X.hears
      have hal := X.warmed.alike
      unfold State.hears at hh ⊢
      split
      · next g r => simp only [State.code?_eq] at hh ⊢; rw [hal.method?]; exact hh
      · rfl
      · rfl
      · next x1 x2 x3 =>
        show (T.vm.method? m).any _ = true
        rw [hal.method?]
        split at hh
        · next g r => exact absurd rfl (x1 g r)
        · next a r => exact absurd rfl (x2 a r)
        · next a r => exact absurd rfl (x3 a r)
        · exact hh
    · refine ⟨hT, Nat.le_refl _, Nat.le_refl _, ?_, ?_, fun a c h => ⟨c, h, rfl, rfl, fun _ _ => rfl⟩⟩
      · show T.slotsUsed = T.slotsUsed + ((T.heap.toList.drop T.heap.size).map _).sum
        rw [List.drop_of_length_le (by simp)]; simp
      · show ((T.heap.toList.drop T.heap.size).map _).sum ≤ 0
        rw [List.drop_of_length_le (by simp)]; simp
  · intro t L k' n' ⟨hW, h1, h2, h3, h4, h5, h6⟩
    refine ⟨State.WarmedH.trans X.warmed hW, X.same.trans ⟨?_, h2, h3, h4, h5, h6⟩⟩
    have e9 : ∀ F : List Frame, (T.setVm s.vm).setFrames F = { s.setFrames F with heap := T.heap, slotsUsed := T.slotsUsed } := fun F => by
      have h9 := congrArg (fun z : State => z.setFrames F) X.same.1
      exact h9.trans (congrArg (fun z : State => ({ z with heap := T.heap, slotsUsed := T.slotsUsed } : State)) (State.setFrames_setFrames s T.frames F))
    have h8 := congrArg (fun z : State => z.setVm s.vm) h1
    exact h8.trans (by rw [e9]; rfl)
end XA
