/-! a method that catches: its start; a call in it that throws -/
theorem tw_MetW {l : Launch} {y : MethodName} {ws ws' : List Cond} {rm : Room} {Pc : Array Value → State → Prop} {Qc : Array Value → State → Outcome → State → Prop} {mc ms : Nat} {free : Addr → Prop} {cc : ByteArray} {maxL : Nat} {ret : Option FieldType} {hh : List (Nat × Nat × Nat × Nat)}
    (hy : plainName y.cls = true) (hw : ws = Cond.codeWith y cc maxL ret hh :: ws')
    (body : ∀ p e s m args below meth c s₁, BodyLoose p l y (headSpec ws rm) cc maxL ret e s m args below meth c s₁ → c.maxLocals = maxL → c.exceptionTable.toList = hh.map (fun q => ⟨q.1, q.2.1, q.2.2.1, q.2.2.2⟩) → Pc args s →
      W p l e (headSpec ws rm).room s m args below meth c s.heap [] 0 0 (MQ below Qc args s mc ms free) (entryFrame m args maxL)) : Met l y ws rm Pc Qc mc ms free := by
  have hmem : Cond.codeWith y cc maxL ret hh ∈ ws := by rw [hw]; exact List.mem_cons_self
  refine MetFree.of_bodyS (code := cc) (maxLocals := maxL) (ret := ret) hy ?_ ?_
  · intro args s m h hn
    obtain ⟨m9, meth, c, hn9, h1, h2, h3, h4, -, h5, h6, -⟩ := Cond.codeWith_spec (atoms_spec (ws := ws) h _ hmem)
    cases hn.symm.trans hn9
    exact ⟨meth, c, h1, h2, h3, h4, h5, h6⟩
  · intro p e s m args below meth c s₁ B hml hP _
    have hh0 : s₁.heap = s.heap := by rw [B.state]; rfl
    have X0 := Stand.of_body B
    obtain ⟨m9, meth9, c9, hn9, h1, h2, -, -, h7, -⟩ := Cond.codeWith_spec (atoms_spec (ws := ws) B.pre _ hmem)
    cases B.named.symm.trans hn9
    have e1 : meth9 = meth := Option.some.inj (h1.symm.trans B.method)
    subst e1
    have e2 : c9 = c := Option.some.inj (h2.symm.trans X0.code)
    subst e2
    obtain ⟨t, a1, o, b1, b2, b3⟩ := body p e s m args below meth9 c9 s₁ B hml (tw_rows h7) hP s₁ hh0 X0
    exact ⟨t, o, a1, b1, b2, ⟨b3.1, b3.2⟩⟩
section TWH
variable {p : Program} {l : Launch} {e : Env} {R : Room} {s : State} {m : MethodId} {args : Array Value} {below : List Frame} {meth : Method} {c : Code} {H : Heap} {locs : List Loc} {cells slots : Nat} {Q : State → Prop}
variable {y : MethodName} {bytes cc : ByteArray} {maxL nL mc ms n index : Nat} {ret : Option FieldType} {ws : List Cond} {rm : Room} {Pc : Array Value → State → Prop} {Ts : List Cond} {own C : String} {b : Addr} {As rest st0 : List Value} {pc : Nat} {ls : Array Slot} {E : String} {A0 : Nat → Prop} {H0 : Heap}
variable {D : va_G} {cl : List vw_C} {ww wc wr wf : va_W} {tysc : List (ClassId × FieldType)} {sa : Nat → Nat}
theorem kw_TV {A Ac : Nat → Prop} (h : PreV s H C b Pc As) (hO : ol_X A s s.heap) (hS : va_S A s.heap H locs) (hAc : ∀ q, Ac q → A q) (hss : ss_X sa s) : PreV s H C b (kw_T sa Ac Pc) As :=
  ⟨kw_Tblind h.1, h.2.1, fun U hU hW => ⟨h.2.2 U hU hW, by rw [hU]; exact ((hO.kept hS.2.1).narrow hAc).moved hW.alike, hss.warm hW⟩⟩
theorem kw_TS {A Ac : Nat → Prop} (h : PreS s H Pc As) (hO : ol_X A s s.heap) (hS : va_S A s.heap H locs) (hAc : ∀ q, Ac q → A q) (hss : ss_X sa s) : PreS s H (kw_T sa Ac Pc) As :=
  ⟨kw_Tblind h.1, fun U hU hW => ⟨h.2 U hU hW, by rw [hU]; exact ((hO.kept hS.2.1).narrow hAc).moved hW.alike, hss.warm hW⟩⟩
/-- .. in a world: the callee's cells at isC, the others at isR -/
theorem tw_callx {hd : Nat} (S : CallFix p m c cc nL s args Ts own) (hM : tw_Met l y ws rm Pc E (tw_W D cl tysc (va_A wc H.size) wf) (va_A wc H.size) mc ms (va_A wc H.size)) (cw : CallW R s args own C index y bytes maxL ret ws rm mc ms n) (hp : PreV s H C b Pc As) (hn : As.length = n) (hsize : ls.size = nL) (hstack : st0 = As.reverse ++ .ref b :: rest) (hW : 2 * (F0 m pc ls st0).monitorRoom + (rest.map fun v => v.category).sum ≤ 8) (hdg : decode cc pc = .ok (.invokevirtual index, 3)) (hf : cells + mc ≤ R.cells ∧ slots + ms ≤ R.slots)
    (hP : va_P D cl ww H) (hD : va_D A0 ww) (hS : va_S A0 H0 H locs) (hA : ∀ q, H0.size ≤ q → A0 q) (isC isR : List Nat) (hC : isC.map (fun i => ww[i]?) = wc.map some) (hR : isR.map (fun i => ww[i]?) = wr.map some) (hnd : va_nd isR = true) (hdis : ∀ i ∈ isR, i ∉ isC)
    {nm : String} (pre : List ExceptionTableEntry) (x : ExceptionTableEntry) (post : List ExceptionTableEntry) (hsplit : c.exceptionTable.toList = pre ++ x :: post) (hpass : ∀ z ∈ pre, z.catchType ≠ 0 ∧ ∃ n2, (Cond.classLink own z.catchType n2).before args s = true ∧ va_Nc E n2 s) (hcov : covers x pc = true) (hx0 : x.catchType ≠ 0) (hxl : (Cond.classLink own x.catchType nm).before args s = true) (hcast : (Cond.castable E nm).before args s = true) (hhd : x.handlerPc = hd)
    (kk : ∀ (q : Nat) (H1 : Heap) (locs1 : List Loc), va_P D cl (wr ++ wf) H1 → va_D A0 (wr ++ wf) → va_S A0 H0 H1 locs1 → W p l e R s m args below meth c H1 locs1 (cells + mc) (slots + ms) Q (F0 m hd ls [.ref q])) : W p l e R s m args below meth c H locs cells slots Q (F0 m pc ls st0) := by
  have hF := va_free hD hS hA isC hC
  refine tw_catch S hM cw hp hn hsize hstack hW hdg hf hS hF pre x post hsplit hpass hcov hx0 hxl hcast hhd (fun q t H1 locs1 ht _ hB _ hk1 hS1 => ?_)
  obtain ⟨hP1, -, hD1⟩ := hB
  rw [ht] at hP1
  obtain ⟨hP2, hD2⟩ := va_join hP hD isC isR hC hR hnd hdis hk1 hF hP1 hD1
  exact kk q H1 locs1 hP2 hD2 hS1
end TWH
