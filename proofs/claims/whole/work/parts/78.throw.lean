/-! throws: what stays of the start, a throw of a method's own, a call that throws and is caught -/
/-- the words on Throwable's two statics: they speak of the heap -/
def ol_ws : List Cond := [.isRef (.static Bundle.tN "UNASSIGNED_STACK" Bundle.steD), .isRef (.static Bundle.tN "SUPPRESSED_SENTINEL" Bundle.listD), .laysStatic Bundle.tN "UNASSIGNED_STACK" Bundle.steD, .laysStatic Bundle.tN "SUPPRESSED_SENTINEL" Bundle.listD]
/-- there was a state with these words, whose cells are all still as they were, and none of them is ours -/
def ol_X (A : Nat → Prop) (U : State) (H : Heap) : Prop := ∃ u : State, u.vm.Alike U.vm ∧ (∀ a : Nat, a < u.heap.size → ¬ A a ∧ H[a]? = u.heap[a]?) ∧ ∀ w ∈ ol_ws, w.before #[] u = true
theorem ol_X.moved {A : Nat → Prop} {u U : State} {H : Heap} (hvm : u.vm.Alike U.vm) (h : ol_X A u H) : ol_X A U H := by
  obtain ⟨w, h1, h2, h3⟩ := h
  exact ⟨w, h1.trans hvm, h2, h3⟩
theorem ol_X.kept {A : Nat → Prop} {U : State} {H H1 : Heap} (h : ol_X A U H) (hq : ∀ a : Nat, a < H.size → ¬ A a → H1[a]? = H[a]?) : ol_X A U H1 := by
  obtain ⟨w, h1, h2, h3⟩ := h
  refine ⟨w, h1, fun a ha => ⟨(h2 a ha).1, ?_⟩, h3⟩
  have e := (h2 a ha).2
  rw [Array.getElem?_eq_getElem ha] at e
  rw [hq a (Array.getElem?_eq_some_iff.mp e).1 (h2 a ha).1, (h2 a ha).2]
theorem ol_X.narrow {A B : Nat → Prop} {U : State} {H : Heap} (h : ol_X A U H) (hAB : ∀ q, B q → A q) : ol_X B U H := by
  obtain ⟨w, h1, h2, h3⟩ := h
  exact ⟨w, h1, fun a ha => ⟨fun z => (h2 a ha).1 (hAB a z), (h2 a ha).2⟩, h3⟩
theorem ol_lay {C n d : String} {u U : State} {args : Array Value} (hvm : u.vm.Alike U.vm) (hh : ∀ a : Nat, a < u.heap.size → U.heap[a]? = u.heap[a]?) (h : (Cond.laysStatic C n d).before #[] u = true) : (Cond.laysStatic C n d).before args U = true := by
  obtain ⟨c, k, i, f, a, cell, hc, hf, hst, ha, hcell, his, hcls, hlt, hty⟩ := Cond.laysStatic_spec h
  obtain ⟨k', hf', he⟩ := State.fieldFound?_setVm hvm hf
  have hc' : U.vm.findClass C = some c := by rw [hvm.findClass]; exact hc
  have hf2 : U.fieldFound? C n d = some (c, k', i, f) := hf'
  have hcell' : U.heap[a]? = some cell := (hh a (Array.getElem?_eq_some_iff.mp hcell).1).trans hcell
  have ha' : k'.statics = some a := by rw [he]; exact ha
  have hty' : k'.staticTypes[f.slot]? = some f.type := by rw [he]; exact hty
  simp [Cond.before, Cond.holds, Cond.value, hc', hf2, ha', hcell', hst, his, hcls, hlt, hty']
theorem ol_ref {C n d : String} {u U : State} {args : Array Value} (hvm : u.vm.Alike U.vm) (hh : ∀ a : Nat, a < u.heap.size → U.heap[a]? = u.heap[a]?) (hl : (Cond.laysStatic C n d).before #[] u = true) (h : (Cond.isRef (.static C n d)).before #[] u = true) : (Cond.isRef (.static C n d)).before args U = true := by
  obtain ⟨c, k, i, f, a, cell, hc, hf, hst, ha, hcell, his, hcls, hlt, hty⟩ := Cond.laysStatic_spec hl
  obtain ⟨k', hf', he⟩ := State.fieldFound?_setVm hvm hf
  have hf2 : U.fieldFound? C n d = some (c, k', i, f) := hf'
  have hcell' : U.heap[a]? = some cell := (hh a (Array.getElem?_eq_some_iff.mp hcell).1).trans hcell
  have ha' : k'.statics = some a := by rw [he]; exact ha
  have e1 : ∀ as : Array Value, (Term.static C n d).eval as u none [] u = cell.slots[f.slot]? := fun as => by
    simp [Term.eval, State.fieldNamed?, hf, hst, ha, hcell, his]
  have e2 : ∀ as : Array Value, (Term.static C n d).eval as U none [] U = cell.slots[f.slot]? := fun as => by
    simp [Term.eval, State.fieldNamed?, hf2, hst, ha', hcell', his]
  simp only [Cond.before, Cond.holds, Cond.value, e1] at h
  simp only [Cond.before, Cond.holds, Cond.value, e2]
  exact h
theorem ol_at {A : Nat → Prop} {U : State} {args : Array Value} (h : ol_X A U U.heap) : ∀ w ∈ ol_ws, w.before args U = true := by
  obtain ⟨u, h1, h2, h3⟩ := h
  have hh : ∀ a : Nat, a < u.heap.size → U.heap[a]? = u.heap[a]? := fun a ha => (h2 a ha).2
  have w0 := h3 _ (List.mem_of_getElem? (l := ol_ws) (i := 0) rfl)
  have w1 := h3 _ (List.mem_of_getElem? (l := ol_ws) (i := 1) rfl)
  have w2 := h3 _ (List.mem_of_getElem? (l := ol_ws) (i := 2) rfl)
  have w3 := h3 _ (List.mem_of_getElem? (l := ol_ws) (i := 3) rfl)
  intro w hw
  simp only [ol_ws, List.mem_cons, List.not_mem_nil, or_false] at hw
  rcases hw with rfl | rfl | rfl | rfl
  · exact ol_ref h1 hh w2 w0
  · exact ol_ref h1 hh w3 w1
  · exact ol_lay h1 hh w2
  · exact ol_lay h1 hh w3
/-- what a method that throws leaves: an object of class E, the world B, and nothing else has changed -/
def tw_Q (E : String) (B : State → Prop) (A : Nat → Prop) (mc ms : Nat) (free : Addr → Prop) : Array Value → State → Outcome → State → Prop := fun _ st o t =>
  ∃ (q : Addr) (ce : Cell) (L : List Loc), o = .threw q ∧ t.heap[q]? = some ce ∧ ce.vm = .none ∧ st.vm.findClass E = some ce.cls ∧ B t ∧ va_F A st t ∧ Free.FrameEndT st o t L mc ms ∧ ∀ z ∈ L, free z.base
def tw_Met (l : Launch) (y : MethodName) (ws : List Cond) (rm : Room) (Pc : Array Value → State → Prop) (E : String) (B : State → Prop) (A : Nat → Prop) (mc ms : Nat) (free : Addr → Prop) : Prop :=
  MetFree l y (headSpec ws rm) Pc (fun _ _ _ _ _ => True) (tw_Q E B A mc ms free)
def tw_E (below : List Frame) (E : String) (B : State → Prop) (A : Nat → Prop) (mc ms : Nat) (free : Addr → Prop) (args : Array Value) (s : State) : State → Prop := fun t => ∃ o, t.status = .running ∧ Ended t below o ∧ tw_Q E B A mc ms free args s o t
theorem tw_ofW {l : Launch} {y : MethodName} {ws ws' : List Cond} {rm : Room} {Pc : Array Value → State → Prop} {E : String} {B : State → Prop} {A : Nat → Prop} {mc ms : Nat} {free : Addr → Prop} {cc : ByteArray} {maxL : Nat} {ret : Option FieldType}
    (hy : plainName y.cls = true) (hw : ws = Cond.code y cc maxL ret :: ws')
    (body : ∀ p e s m args below meth c s₁, BodyLoose p l y (headSpec ws rm) cc maxL ret e s m args below meth c s₁ → c.maxLocals = maxL → (∀ x ∈ c.exceptionTable.toList, False) → Pc args s →
      W p l e (headSpec ws rm).room s m args below meth c s.heap [] 0 0 (tw_E below E B A mc ms free args s) (entryFrame m args maxL)) : tw_Met l y ws rm Pc E B A mc ms free := by
  have hmem : Cond.code y cc maxL ret ∈ ws := by rw [hw]; exact List.mem_cons_self
  refine MetFree.of_bodyS (code := cc) (maxLocals := maxL) (ret := ret) hy (fun args s m h hn => ?_) (fun p e s m args below meth c s₁ B9 hml hP _ => ?_)
  · obtain ⟨meth, c, h1, h2, h3, h4, h5, h6, -⟩ := Cond.code_spec hn (atoms_spec (ws := ws) h _ hmem)
    exact ⟨meth, c, h1, h2, h3, h4, h5, h6⟩
  · have X0 := Stand.of_body B9
    obtain ⟨meth9, c9, h1, h2, -, -, -, -, h7, -⟩ := Cond.code_spec B9.named (atoms_spec (ws := ws) B9.pre _ hmem)
    have e1 : meth9 = meth := Option.some.inj (h1.symm.trans B9.method)
    subst e1
    have e2 : c9 = c := Option.some.inj (h2.symm.trans X0.code)
    subst e2
    have hnone : ∀ x ∈ c9.exceptionTable.toList, False := fun x hx => by rw [Array.isEmpty_iff.mp h7] at hx; cases hx
    have hheap : s₁.heap = s.heap := by rw [B9.state]; rfl
    obtain ⟨t, a1, o, b1, b2, b3⟩ := body p e s m args below meth9 c9 s₁ B9 hml hnone hP s₁ hheap X0
    exact ⟨t, o, a1, b1, b2, b3⟩
