/-! a throw of the class's own, as a row of a walk -/
def tw_up : List String := ["java/lang/RuntimeException", "java/lang/Exception"]
/-- words of the tables that aren't among LW: they stay, each by a law of its own -/
def nk_L : List Cond := [.castable "java/lang/IllegalArgumentException" "java/lang/IllegalArgumentException", .castable "java/lang/IndexOutOfBoundsException" "java/lang/IndexOutOfBoundsException", .declares (Bundle.initS "java/lang/RuntimeException"), .declares (Bundle.initS "java/lang/Exception"), .declares (Bundle.initS Bundle.tN)]
def nk_X (U : State) : Prop := ∀ w ∈ nk_L, va_Nw w U
theorem nk_on : ∀ w ∈ nk_L, w.onTables = true := by
  intro w hw
  simp only [nk_L, List.mem_cons, List.not_mem_nil, or_false] at hw
  rcases hw with rfl | rfl | rfl | rfl | rfl <;> rfl
theorem nk_X.same {u U : State} (hv : u.vm = U.vm) (h : nk_X u) : nk_X U := fun w hw => (h w hw).same (nk_on w hw) hv
theorem nk_X.warm {s U : State} (hW : s.WarmedH U.vm) (h : nk_X s) : nk_X U := by
  intro w hw
  have h1 := h w hw
  simp only [nk_L, List.mem_cons, List.not_mem_nil, or_false] at hw
  rcases hw with rfl | rfl | rfl | rfl | rfl
  · exact h1.warmC hW
  · exact h1.warmC hW
  · exact h1.warmD hW
  · exact h1.warmD hW
  · exact h1.warmD hW
/-- the words of a throw of class E: 'new' at ni, its constructor at ic -/
def tw_ok (E : String) (ni ic : Nat) : Prop := Bundle.fit E = true ∧ Cond.classLink R_H ni E ∈ LW ∧ Cond.instantiable E 6 ∈ LW ∧ Cond.initialized E ∈ LW ∧ ∀ a ∈ Bundle.ownAtoms R_H ic E tw_up, ((a ∈ LW ∧ a.onTables = true) ∨ a ∈ ol_ws) ∨ a ∈ nk_L
theorem tw_sub {s s2 U : State} {L : List Loc} {k n : Nat} {fr : List Frame} (e : s2 = s.setFrames fr) (h : s2.sameButNew U L k n) : s.sameButNew U L k n := by
  subst e
  obtain ⟨h1, h2, h3, h4, h5, h6⟩ := h
  refine ⟨?_, h2, h3, h4, h5, h6⟩
  rw [State.setFrames_setFrames] at h1
  exact h1
theorem tw_cell {s U : State} {k n : Nat} (h : s.sameButNew U [] k n) : ∀ a : Nat, a < s.heap.size → U.heap[a]? = s.heap[a]? := by
  intro a ha
  obtain ⟨c', g1, g2, g3, g4⟩ := h.2.2.2.2.2 a _ (Array.getElem?_eq_getElem ha)
  rw [g1, Array.getElem?_eq_getElem ha]
  have e : c'.slots = (s.heap[a]).slots := Array.ext_getElem? (fun i => g4 i (by simp))
  rw [g2, e]
section TWT
variable {p : Program} {l : Launch} {e : Env} {R : Room} {s : State} {m : MethodId} {args : Array Value} {below : List Frame} {meth : Method} {c : Code} {H : Heap} {locs : List Loc} {cells slots : Nat} {cc : ByteArray} {pc : Nat} {ls : Array Slot} {A : Nat → Prop}
set_option maxHeartbeats 1000000 in
theorem tw_throw {w0 : Cond} {E tx : String} {ni ix ic q mc ms : Nat} {B : State → Prop} (hexec : p.tables.exec = Jvm.exec) (hb : c.code = cc) (hts : ∀ w ∈ w0 :: LW, w.before args s = true) (hown : s.vm.findClass R_H = some m.cls) (htr : l.stackTraces = false) (hE : tw_ok E ni ic)
    (hst : vk_R R_H ix tx q s) (hNk : nk_X s) (hO : ol_X A s s.heap) (hS : va_S A s.heap H locs) (hml : ls.size = c.maxLocals) (hnone : ∀ x ∈ c.exceptionTable.toList, False)
    (d0 : decode cc pc = .ok (.new ni, 3)) (d3 : decode cc (pc + 3) = .ok (.dup, 1)) (d4 : decode cc (pc + 4) = .ok (.ldc ix, 2)) (d6 : decode cc (pc + 6) = .ok (.invokespecial ic, 3)) (d9 : decode cc (pc + 9) = .ok (.athrow, 1))
    (hfr : 5 < R.frames) (hlo : 90 ≤ R.locals) (hce : cells + 1 ≤ R.cells) (hsl : slots + 6 ≤ R.slots) (hmc : mc = cells + 1) (hms : ms = slots + 6) (hlocks : meth.locks = false)
    (hB : ∀ t : State, H.size ≤ t.heap.size → (∀ a : Nat, a < H.size → t.heap[a]? = H[a]?) → s.vm.Alike t.vm → B t) :
    W p l e R s m args below meth c H locs cells slots (tw_E below E B A mc ms A args s) (F0 m pc ls []) := by
  intro T hT X
  obtain ⟨k1, k2, k3, k4, k5⟩ := hE
  subst hmc; subst hms
  have htr2 : e.platform.stackTraces = false := by rw [Example.NoTraceControls.admits_follows X.admits]; exact htr
  have X0 := rb_stand X (k := 1) (n := 6) hce hsl
  generalize hs2 : rb_now s T m args below = s2 at X0
  have hvm : s.vm = s2.vm := by rw [← hs2]; rfl
  have hhp : s2.heap = T.heap := by rw [← hs2]; rfl
  have hO2 : ol_X A s2 s2.heap := by
    rw [hhp, hT]
    exact (hO.kept hS.2.1).moved (by rw [hvm]; exact Vm.Alike.refl _)
  have hw : ∀ w, w ∈ LW → w.onTables = true → w.before args s2 = true := fun w h1 h2 => va_tabs h2 hvm (hw_of hts h1)
  have hat : ∀ a ∈ Bundle.ownAtoms R_H ic E tw_up, a.before args s2 = true := by
    intro a ha
    rcases k5 a ha with (h | h) | h
    · exact hw a h.1 h.2
    · exact ol_at hO2 a h
    · exact ((hNk.same hvm) a h).use (nk_on a h)
  have hown2 : s2.vm.findClass R_H = some m.cls := by rw [← hvm]; exact hown
  obtain ⟨vm1, cX, kX, hfX, hkX, -, -, X1, st1⟩ := X0.newCold hexec (own := R_H) (C := E) (index := ni) (n := 6) hown2 (hw _ k2 rfl) (hw _ k3 rfl) (hw _ k4 rfl) (g := F0 m pc ls []) rfl (by rw [hb]; exact d0) (Nat.le_refl _) (Nat.le_refl _)
  generalize hT1 : (T.setVm vm1).pushCell { cls := cX, slots := kX.instanceTypes.map defaultValue, vm := .none } = T1 at X1 st1
  have hcellA : T1.heap[T.heap.size]? = some (freshCell cX kX) := by rw [← hT1]; exact State.heap_pushCell_size _ _
  have hZ : vk_R R_H ix tx q s2 := vk_R.same hvm.symm hst
  obtain ⟨U, hsteps, hrun, hend, hW, hsame, ce, hce2, K⟩ := X1.ctorThrowS hexec htr2 (own := R_H) (cls := E) (names := tw_up) (ic := ic) hown2 k1 (by decide +kernel) hat (fun y hy => by cases hy) hfX hkX hcellA (by rw [hhp]; exact Nat.le_refl _) (msg := .ref q) rfl
    (g := F0 m (pc + 6) ls [.ref q, .ref T.heap.size, .ref T.heap.size]) rfl hml rfl rfl (rest := []) rfl (by rw [hb]; exact d6) (by rw [hb]; exact d9) (fun x hx => (hnone x hx).elim) (by show _ < R.frames; simp only [tw_up, List.length_cons, List.length_nil]; omega) (by show _ ≤ R.locals; simp [F0, tw_up, Value.category, JFrame.monitorRoom]; omega) hlocks
  have hk : ∀ a : Nat, a < H.size → U.heap[a]? = H[a]? := by
    intro a ha
    have h1 := tw_cell hsame a (by rw [hhp, hT]; exact ha)
    rw [hhp, hT] at h1
    exact h1
  have hge : H.size ≤ U.heap.size := by
    have h1 := hsame.2.1
    rw [hhp, hT] at h1
    exact h1
  have hW2 : s.WarmedH U.vm := State.WarmedH.of_rootvm hvm hW
  have hsm : s.sameButNew ({ U with vm := s.vm } : State) locs (cells + 1) (slots + 6) := by
    have h1 : (T.setVm s.vm).sameButNew ({ U with vm := s.vm } : State) [] 1 6 := by
      refine tw_sub (s2 := s2) hs2.symm ?_
      rw [hvm]; exact hsame
    have h2 := X.same.trans h1
    rw [List.append_nil] at h2
    exact h2
  refine ⟨U, ?_, .threw T.heap.size, hrun, hend, T.heap.size, ce, locs, rfl, hce2, K.vm, by rw [hvm]; exact K.cls, hB U hge hk hW2.alike, ⟨Nat.le_trans hS.1 hge, fun a h1 h2 => ?_⟩, ⟨⟨_, rfl⟩, hW2, hsm⟩, hS.2.2⟩
  · refine st1 _ ?_
    show Steps p.tables e below (T1.setTop (F0 m (pc + 3) ls [.ref T.heap.size])) U
    jvm_step X1.here [X1.here.top, hexec, hb, d3, Value.category]
    exact X1.ldcString hexec hown2 (text := tx) (a := q) hZ.1 hZ.2 (g := F0 m (pc + 4) ls [.ref T.heap.size, .ref T.heap.size]) rfl (by rw [hb]; exact d4) _ hsteps
  · rw [hk a (Nat.lt_of_lt_of_le h1 hS.1)]
    exact hS.2.1 a h1 h2
end TWT
