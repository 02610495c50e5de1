/-! what the tables and the statics say of exceptions, and how a warmer machine keeps it -/
abbrev xIAE : String := "java/lang/IllegalArgumentException"
abbrev xISE : String := "java/lang/IllegalStateException"
abbrev xIOB : String := "java/lang/IndexOutOfBoundsException"
abbrev xNames : List String := ["java/lang/RuntimeException", "java/lang/Exception"]
def jXF : List Cond := [.castable xIAE xIAE, .castable xISE xISE, .castable xIOB xIOB, .declares (Bundle.initS "java/lang/RuntimeException"), .declares (Bundle.initS "java/lang/Exception"), .declares (Bundle.initS Bundle.tN)]
def jXS : List (Nat × String) := [(69, "no such character, property or value"), (82, "no such parting"), (89, "a character would be parted into more than four"), (96, "no such character"), (102, "the text is full"), (118, "the form is too long for a text"), (162, "the key has no such number"), (175, "the text has no such character"), (177, "the text has no such place"), (179, "no such slot")]
def jXV : List Cond := [.laysStatic Bundle.tN "UNASSIGNED_STACK" Bundle.steD, .isRef (.static Bundle.tN "UNASSIGNED_STACK" Bundle.steD), .laysStatic Bundle.tN "SUPPRESSED_SENTINEL" Bundle.listD, .isRef (.static Bundle.tN "SUPPRESSED_SENTINEL" Bundle.listD)]
def jXZ (n d : String) (A : Nat → Prop) (U : State) : Prop := (Cond.laysStatic Bundle.tN n d).before #[] U = true ∧ (Cond.isRef (.static Bundle.tN n d)).before #[] U = true ∧ ∃ (cf : ClassId) (kf : Class) (fi : Nat) (f : Field) (a : Nat), U.fieldFound? Bundle.tN n d = some (cf, kf, fi, f) ∧ kf.statics = some a ∧ a < U.heap.size ∧ ¬ A a
def jX (A : Nat → Prop) (U : State) : Prop := (∀ w ∈ jXF, w.before #[] U = true) ∧ (∀ q ∈ jXS, (Cond.stringRef "TextPipeline" q.1 q.2).before #[] U = true) ∧ (∀ c1 c2 : ClassId, U.vm.findClass xISE = some c1 → U.vm.findClass xIAE = some c2 → U.vm.assignable c1 c2 = false) ∧ jXZ "UNASSIGNED_STACK" Bundle.steD A U ∧ jXZ "SUPPRESSED_SENTINEL" Bundle.listD A U
theorem jxf_args {w : Cond} (h : w.onTables = true) {a b : Array Value} {U V : State} (hv : U.vm = V.vm) (hb : w.before a U = true) : w.before b V = true := by
  have h1 := Cond.onTables_vm (A := a) (A' := b) (U := U) (U' := V) U.vm w h
  rw [State.setVm_self, show V.setVm U.vm = V by rw [hv, State.setVm_self]] at h1
  rw [← h1]; exact hb
theorem jXZ.moved {n d : String} {A B : Nat → Prop} {s U : State} (h : jXZ n d A s) (hW : s.WarmedH U.vm) (hk : ∀ a : Nat, a < s.heap.size → ¬ A a → U.heap[a]? = s.heap[a]?) (hz : s.heap.size ≤ U.heap.size) (hB : ∀ q, B q → A q) : jXZ n d B U := by
  obtain ⟨h1, h2, cf, kf, fi, f, a, hf, hst, ha, hA⟩ := h
  have w1 : (Cond.laysStatic Bundle.tN n d).before #[] (s.setVm U.vm) = true := Cond.holds_shifted (State.Shifted.of_warmed hW) _ [] rfl h1
  have w2 : (Cond.isRef (.static Bundle.tN n d)).before #[] (s.setVm U.vm) = true := Cond.holds_shifted (State.Shifted.of_warmed hW) _ [] rfl h2
  obtain ⟨k', hi', he⟩ := State.fieldFound?_setVm (s := s) hW.alike hf
  have hi1 : (s.setVm U.vm).fieldFound? Bundle.tN n d = some (cf, k', fi, f) := hi'
  have hi2 : U.fieldFound? Bundle.tN n d = some (cf, k', fi, f) := hi'
  have hst' : k'.statics = some a := by rw [he]; exact hst
  have hh : (s.setVm U.vm).heap[a]? = s.heap[a]? := rfl
  have hU := hk a ha hA
  refine ⟨?_, ?_, cf, k', fi, f, a, hi2, hst', Nat.lt_of_lt_of_le ha hz, fun z => hA (hB a z)⟩
  · have e9 : (s.setVm U.vm).vm.findClass Bundle.tN = U.vm.findClass Bundle.tN := rfl
    simp only [Cond.before, Cond.holds, Cond.value, hi1, e9] at w1
    simp only [Cond.before, Cond.holds, Cond.value, hi2]
    cases h9 : U.vm.findClass Bundle.tN with
    | none => rw [h9] at w1; simp at w1
    | some c9 =>
      rw [h9] at w1
      simp only [hst', Option.bind_some, hh] at w1
      simp only [hst', Option.bind_some, hU]
      exact w1
  · simp only [Cond.before, Cond.holds, Cond.value, Term.eval, State.fieldNamed?, hi1, Option.bind_eq_bind, Option.bind_some] at w2
    simp only [Cond.before, Cond.holds, Cond.value, Term.eval, State.fieldNamed?, hi2, Option.bind_eq_bind, Option.bind_some]
    cases h9 : f.isStatic with
    | false => rw [h9] at w2; simp at w2
    | true =>
      rw [h9] at w2
      simp only [beq_self_eq_true, if_true, Option.pure_def, Option.bind_some, hst', hh] at w2
      simp only [beq_self_eq_true, if_true, Option.pure_def, Option.bind_some, hst', hU]
      exact w2
theorem jX.moved {A B : Nat → Prop} {s U : State} (h : jX A s) (hW : s.WarmedH U.vm) (hk : ∀ a : Nat, a < s.heap.size → ¬ A a → U.heap[a]? = s.heap[a]?) (hz : s.heap.size ≤ U.heap.size) (hB : ∀ q, B q → A q) : jX B U := by
  obtain ⟨h1, h2, h3, h4, h5⟩ := h
  refine ⟨fun w hw => ?_, fun q hq => ?_, fun c1 c2 e1 e2 => ?_, h4.moved hW hk hz hB, h5.moved hW hk hz hB⟩
  · have hT : w.onTables = true ∧ w.faceAtom = true := (by decide +kernel : ∀ w ∈ jXF, w.onTables = true ∧ w.faceAtom = true) w hw
    exact jxf_args hT.1 (U := s.setVm U.vm) rfl (Cond.faceAtom_setVm hW.alike w hT.2 (h1 w hw))
  · have h6 : (Cond.stringRef "TextPipeline" q.1 q.2).before #[] (s.setVm U.vm) = true := Cond.stringRef_warmed hW (h2 q hq)
    simp only [Cond.before, Cond.holds, Cond.value, State.names, State.poolOf?, State.resolvedAt?] at h6 ⊢
    exact h6
  · rw [hW.alike.findClass] at e1 e2
    rw [hW.alike.assignable]
    exact h3 c1 c2 e1 e2
theorem jx_at {A : Nat → Prop} {s : State} {args : Array Value} (h : jX A s) (hw0 : ∀ w ∈ WS0, w.before args s = true) {w : Cond} (hw : w ∈ WS0 ∨ w ∈ jXF ∨ w ∈ jXV) : w.before args s = true := by
  rcases hw with hw | hw | hw
  · exact hw0 w hw
  · exact jxf_args ((by decide +kernel : ∀ w ∈ jXF, w.onTables = true) w hw) rfl (h.1 w hw)
  · obtain ⟨-, -, -, ⟨a1, a2, -⟩, ⟨b1, b2, -⟩⟩ := h
    simp only [jXV, List.mem_cons, List.not_mem_nil, or_false] at hw
    rcases hw with rfl | rfl | rfl | rfl
    · exact a1
    · exact a2
    · exact b1
    · exact b2
/-- the words that 'throw new' asks, of each exception -/
theorem xa_IAE : ∀ a ∈ Bundle.ownAtoms "TextPipeline" 71 xIAE xNames, a ∈ WS0 ∨ a ∈ jXF ∨ a ∈ jXV := by decide +kernel
theorem xa_ISE : ∀ a ∈ Bundle.ownAtoms "TextPipeline" 91 xISE xNames, a ∈ WS0 ∨ a ∈ jXF ∨ a ∈ jXV := by decide +kernel
theorem xa_IOB : ∀ a ∈ Bundle.ownAtoms "TextPipeline" 164 xIOB xNames, a ∈ WS0 ∨ a ∈ jXF ∨ a ∈ jXV := by decide +kernel
