/-! calls that throw and are caught; static calls of methods that catch -/
theorem tw_rows {l : List ExceptionTableEntry} {hh : List (Nat × Nat × Nat × Nat)} (h : l.map (fun h => (h.startPc, h.endPc, h.handlerPc, h.catchType)) = hh) : l = hh.map (fun q => ⟨q.1, q.2.1, q.2.2.1, q.2.2.2⟩) := by
  subst h
  rw [List.map_map]
  conv => lhs; rw [← List.map_id l]
  rfl
def tw_Post (E : String) (B : State → Prop) (A : Nat → Prop) (mc ms : Nat) (free : Addr → Prop) : Free.Pt → Array Value → Addr → Free.Pt → Prop := fun P a q P1 =>
  ∃ (g : JFrame) (mk : MethodId) (t : State) (L : List Loc) (ce : Cell), P1.U.heap = t.heap ∧ P1.U.vm = t.vm ∧ t.heap[q]? = some ce ∧ ce.vm = .none ∧ P.U.vm.findClass E = some ce.cls ∧ B t ∧ va_F A (P.U.calling g mk a) t ∧ P1.locs = P.locs ++ L ∧ (∀ z ∈ L, free z.base) ∧ P1.cells = P.cells + mc ∧ P1.slots = P.slots + ms
theorem tw_back {p : Program} {l : Launch} {e : Env} {R : Room} {below : List Frame} {s : State} {sargs : Array Value} {len W : Nat} {y : MethodName} {ws : List Cond} {rm : Room} {Pc : Array Value → State → Prop} {E : String} {B : State → Prop} {A : Nat → Prop} {mc ms : Nat} {free : Addr → Prop} {bytes : ByteArray} {maxL : Nat} {ret : Option FieldType}
    (hM : tw_Met l y ws rm Pc E B A mc ms free) (hblind : FrameBlind Pc) (hrc : rm.cells = mc) (hrs : rm.slots = ms) (hframes : rm.frames + 1 ≤ R.frames) (hlocals : W + (maxL + 11) + rm.locals ≤ R.locals)
    (hws : ∀ w ∈ ws, ∀ a' U, s.WarmedH U.vm → w.before a' U = true) (hcode : Cond.code y bytes maxL ret ∈ ws) (hinit : ∀ a' U, s.WarmedH U.vm → (Cond.initialized y.cls).before a' U = true) :
    Free.BackT l R p e below s sargs y len W (PreOf R mc ms Pc) (tw_Post E B A mc ms free) := by
  refine Free.BackT.of_free (S := headSpec ws rm) (P := Pc) (K := fun _ _ _ _ _ => True) (Q := tw_Q E B A mc ms free) (bytes := bytes) (maxL := maxL) (ret := ret) (E := fun a st o t L k n => k = mc ∧ n = ms ∧ ∀ q ∈ L, free q.base) hM hframes hlocals ?_ ?_ (fun _ _ _ _ _ _ _ _ _ => trivial) ?_ ?_
  · intro m meth c A a X hp
    exact ⟨atoms_intro fun w hw => hws w hw _ _ X.warmed, hws _ hcode _ _ X.warmed, hinit _ _ X.warmed, by rw [show (headSpec ws rm).room.cells = mc from hrc]; exact hp.1, by rw [show (headSpec ws rm).room.slots = ms from hrs]; exact hp.2.1⟩
  · intro m meth c A a g mk X hp
    exact hblind _ _ _ _ hp.2.2
  · intro a st o t ⟨q, ce, L, h1, h2, h3, h4, h5, h6, h7, h8⟩
    exact ⟨L, mc, ms, h7, rfl, rfl, h8⟩
  · intro m meth c P a g mk v t L k n X hp hq hF ⟨e1, e2, hL⟩
    subst e1; subst e2
    obtain ⟨q, ce, L2, h1, h2, h3, h4, h5, h6, h7, h8⟩ := hq
    cases h1
    exact ⟨g, mk, t, L, ce, rfl, rfl, h2, h3, h4, h5, h6, rfl, hL, rfl, rfl⟩
section TWC
variable {p : Program} {l : Launch} {e : Env} {R : Room} {s : State} {m : MethodId} {args : Array Value} {below : List Frame} {meth : Method} {c : Code} {H : Heap} {locs : List Loc} {cells slots : Nat} {Q : State → Prop}
variable {y : MethodName} {bytes cc : ByteArray} {maxL nL mc ms n index : Nat} {ret : Option FieldType} {ws : List Cond} {rm : Room} {Pc : Array Value → State → Prop} {Ts : List Cond} {own C : String} {b : Addr} {As rest st0 : List Value} {pc : Nat} {ls : Array Slot} {E : String} {B : State → Prop} {Ac A0 : Nat → Prop} {H0 : Heap}
theorem tw_catch {hd : Nat} (S : CallFix p m c cc nL s args Ts own) (hM : tw_Met l y ws rm Pc E B Ac mc ms Ac) (cw : CallW R s args own C index y bytes maxL ret ws rm mc ms n) (hp : PreV s H C b Pc As) (hn : As.length = n) (hsize : ls.size = nL) (hstack : st0 = As.reverse ++ .ref b :: rest) (hW : 2 * (F0 m pc ls st0).monitorRoom + (rest.map fun v => v.category).sum ≤ 8) (hdg : decode cc pc = .ok (.invokevirtual index, 3)) (hf : cells + mc ≤ R.cells ∧ slots + ms ≤ R.slots)
    (hS : va_S A0 H0 H locs) (hA : ∀ q, Ac q → A0 q)
    {nm : String} (pre : List ExceptionTableEntry) (x : ExceptionTableEntry) (post : List ExceptionTableEntry) (hsplit : c.exceptionTable.toList = pre ++ x :: post) (hpass : ∀ z ∈ pre, z.catchType ≠ 0 ∧ ∃ n2, (Cond.classLink own z.catchType n2).before args s = true ∧ va_Nc E n2 s) (hcov : covers x pc = true) (hx0 : x.catchType ≠ 0) (hxl : (Cond.classLink own x.catchType nm).before args s = true) (hcast : (Cond.castable E nm).before args s = true) (hhd : x.handlerPc = hd)
    (kk : ∀ (q : Nat) (t : State) (H1 : Heap) (locs1 : List Loc), t.heap = H1 → s.vm.Alike t.vm → B t → H.size ≤ H1.size → (∀ q : Nat, q < H.size → ¬ Ac q → H1[q]? = H[q]?) → va_S A0 H0 H1 locs1 → W p l e R s m args below meth c H1 locs1 (cells + mc) (slots + ms) Q (F0 m hd ls [.ref q])) : W p l e R s m args below meth c H locs cells slots Q (F0 m pc ls st0) := by
  obtain ⟨⟨hrc, hrs, hfr, hlo, hws, hcw, hcode, hini, hy, hlen, hl⟩, hin, hse⟩ := cw
  obtain ⟨hx, hb, hml, ho, -⟩ := S
  obtain ⟨hblind, ⟨cellB, hcB, hoB, hclB⟩, hPc⟩ := hp
  subst hhd
  intro T hT X
  have hK : Free.BackT l R p e below s args y 3 8 (PreOf R mc ms Pc) (tw_Post E B Ac mc ms Ac) := tw_back (bytes := bytes) (maxL := maxL) (ret := ret) hM hblind hrc hrs hfr hlo hws hcw (fun a' U hW => word_at hW (Or.inl (by first | rfl | simp [Cond.onTables, Cond.keeps, Cond.steady])) hini)
  obtain ⟨mk, methM, hnamed, hmethM, hstM, habM⟩ := Cond.instanceMethod_spec hin
  obtain ⟨methM', cM, hmethM', -, -, -, -, -, -, hsigM⟩ := Cond.code_spec hnamed hcode
  cases hmethM.symm.trans hmethM'
  obtain ⟨c2, r2, m2, q1, q2, q3, q4, kP, hkP, hkPi⟩ := Cond.selects_spec hse
  cases hclB.symm.trans q1
  cases (State.methodFound?_of_named hnamed hy).symm.trans q2
  cases hnamed.symm.trans q3
  have hselP : selectMethod e.platform s.vm cellB.cls mk = .method mk := by rw [Launch.admits_selectMethod X.admits]; exact q4
  obtain ⟨vm₁, X₁, hstep₁⟩ := X.invokevirtual hx ho hl hnamed hmethM hstM hkP hkPi hy (a := b) (cell := cellB) (by rw [hT]; exact hcB)
    (fun z h => by rw [h] at hoB; cases hoB) hselP hmethM habM hkP hkPi (g := F0 m pc ls st0) rfl (argsL := As) (rest := rest) (hn.trans (hlen _ hsigM)) hstack (by rw [hb]; exact hdg)
  obtain ⟨v, ⟨U', l2, c2, s2⟩, X', ⟨g', mk', t, L, ce, e1, e2, f1, f2, f3, f4, f5, h1, hL, h2, h3⟩, hsteps⟩ := hK m meth c ⟨T.setVm vm₁, locs, cells, slots⟩ { F0 m pc ls st0 with stack := rest } (.invokevirtual index) mk (Value.ref b :: As).toArray X₁ rfl (hsize.trans hml.symm) (by rw [hb]; exact hdg) hW (X₁.named hnamed) ⟨hf.1, hf.2, hPc (T.setVm vm₁) hT X₁.warmed⟩
  dsimp only [Free.Pt.U, Free.Pt.locs, Free.Pt.cells, Free.Pt.slots] at X' e1 e2 h1 h2 h3 f3 f5 hsteps
  subst h1; subst h2; subst h3
  have hcome := hstep₁ _ (fun acts => by rw [doInvoke_state]; exact hsteps)
  have hfE : s.vm.findClass E = some ce.cls := by rw [← X₁.warmed.alike.findClass]; exact f3
  obtain ⟨cA, cT, g1, g2, g3⟩ := Cond.castable_spec hcast
  cases hfE.symm.trans g1
  obtain ⟨hend, hk0⟩ := X'.catches_of_link ho hx0 hxl g2 g3
  have hpl : e.platform.magicAccessors = ({} : Platform).magicAccessors := by rw [X.admits.platform]
  have hps : ∀ z ∈ pre, RowPassed e.platform s m.cls (F0 m pc ls rest).pc ce.cls z := by
    intro z hz
    obtain ⟨k1, n2, k2, cN, tN, k3, k4, k5⟩ := hpass z hz
    cases hfE.symm.trans k3
    obtain ⟨c9, hc9, hcl9⟩ := Cond.classLink_spec ho k2 e.platform hpl
    cases k4.symm.trans hc9
    exact Or.inr ⟨k1, _, hcl9, k5⟩
  obtain ⟨vm', XV, st⟩ := X'.thenCaughtThrough v (g := F0 m pc ls rest) rfl hcome (by rw [e1]; exact f1) (by rw [f2]; rfl) hk0 pre x post hsplit hps hcov hend
  have hz : H.size ≤ t.heap.size := by rw [← hT]; exact f5.1
  have hkq : ∀ q : Nat, q < H.size → ¬ Ac q → t.heap[q]? = H[q]? := fun q w1 w2 => by rw [← hT]; exact f5.2 q (by rw [← hT] at w1; exact w1) w2
  obtain ⟨t2, a1, b1⟩ := kk v t t.heap (locs ++ L) rfl (by rw [← e2]; exact X'.warmed.alike) f4 hz hkq
    ⟨Nat.le_trans hS.1 hz, fun q w1 w2 => by rw [hkq q (Nat.lt_of_lt_of_le w1 hS.1) (fun z => w2 (hA q z))]; exact hS.2.1 q w1 w2, fun q hq => by
      rcases List.mem_append.mp hq with h | h
      · exact hS.2.2 q h
      · exact hA _ (hL q h)⟩ (U'.setVm vm') e1 XV
  exact ⟨t2, st.trans a1, b1⟩
/-- a static call of a method that catches -/
theorem tw_runS {Qc : Array Value → State → Outcome → State → Prop} {free : Addr → Prop} {hh : List (Nat × Nat × Nat × Nat)} (S : CallFix p m c cc nL s args Ts own) (hM : Met l y ws rm Pc Qc mc ms free) (hl : Cond.methodLink own index y ∈ Ts ∧ Cond.static y ∈ Ts ∧ Cond.initialized y.cls ∈ Ts) (hG : GoodIn Ts ws) (hc : Cond.codeWith y bytes maxL ret hh ∈ ws) (hrc : rm.cells = mc) (hrs : rm.slots = ms) (hR : rm.frames + 1 ≤ R.frames ∧ 8 + (maxL + 11) + rm.locals ≤ R.locals)
    (hd : y.cls ≠ "java/lang/invoke/MethodHandle" ∧ y.cls ≠ "java/lang/invoke/VarHandle" ∧ (parseMethodDescriptor y.desc).map (fun d => d.parameters.length) = some n) (hp : PreS s H Pc As)
    (hn : As.length = n) (hsize : ls.size = nL) (hstack : st0 = As.reverse ++ rest) (hW : 2 * (F0 m pc ls st0).monitorRoom + (rest.map fun v => v.category).sum ≤ 8) (hdg : decode cc pc = .ok (.invokestatic index, 3)) (hf : cells + mc ≤ R.cells ∧ slots + ms ≤ R.slots) :
    va_Run p l e R s m args below meth c H locs cells slots mc ms (F0 m pc ls st0) rest (Qc As.toArray) free := by
  obtain ⟨hx, hb, hml, ho, hts⟩ := S
  have hini := hts _ hl.2.2
  have hK : Back l R p e below s args y 3 8 (PreOf R mc ms Pc) (PostOf Qc mc ms free) := va_backW (hh := hh) (bytes := bytes) (maxL := maxL) (ret := ret) hM hp.1 hrc hrs hR.1 hR.2 (pay_in hts hG) hc (fun a' U hW => word_at hW (Or.inl (by first | rfl | simp [Cond.onTables, Cond.keeps, Cond.steady])) hini)
  intro T hT X
  have hcode : (Cond.codeWith y bytes maxL ret hh).before args s = true := hts _ (hG _ hc).1
  obtain ⟨mk, methM, cM, hnamed, hmethM, -, -, -, -, -, -, hsigM⟩ := Cond.codeWith_spec hcode
  have hstatic : methM.isStatic = true := Cond.static_spec hnamed hmethM (hts _ hl.2.1)
  obtain ⟨kP, hkP, -⟩ := className_of_methodNamed hnamed
  have hinitP : kP.init = .initialized := Cond.initialized_spec (findClass_of_methodNamed hnamed) hkP hini
  have hlen : As.length = methM.sig.parameters.length := by
    have h2 := hd.2.2
    rw [hsigM] at h2
    exact hn.trans (Option.some.inj h2).symm
  obtain ⟨vm₁, X₁, hstep₁⟩ := X.invokestatic hx ho (hts _ hl.1) hnamed hmethM hstatic hkP hinitP ⟨hd.1, hd.2.1⟩ (g := F0 m pc ls st0) rfl (argsL := As) (rest := rest) hlen hstack (by rw [hb]; exact hdg)
  obtain ⟨v, ⟨U', l2, c2, s2⟩, X', ⟨g', mk', t, L, e1, e2, hq, h1, hL, h2, h3⟩, hsteps⟩ := hK m meth c ⟨T.setVm vm₁, locs, cells, slots⟩ { F0 m pc ls st0 with stack := rest } (.invokestatic index) mk As.toArray X₁ rfl (hsize.trans hml.symm) (by rw [hb]; exact hdg) hW (X₁.named hnamed) ⟨hf.1, hf.2, hp.2 (T.setVm vm₁) hT X₁.warmed⟩
  dsimp only [Pt.U, Pt.locs, Pt.cells, Pt.slots] at X' e1 e2 h1 h2 h3 hsteps
  subst h1; subst h2; subst h3
  exact ⟨v, (T.setVm vm₁).calling g' mk' As.toArray, t, U', L, hT, X', hL, e1, e2, hq, fun target h => hstep₁ _ fun acts => by rw [doInvoke_state]; exact hsteps.trans h⟩
end TWC
