/-! calls of methods that write; ends of methods -/
/-- the end of a method that writes and answers nothing: the cells as they are then -/
def kw_Qv (D : va_G) (cl : List vw_C) (tys : List (ClassId × FieldType)) (A : Nat → Prop) (wf : va_W) : Array Value → State → Outcome → State → Prop :=
  va_Qv (fun _ : Unit => True) (fun _ t => va_P D cl wf t.heap ∧ va_K D cl tys t ∧ va_D A wf) A
/-- .. and answers an int -/
def kw_Qi (D : va_G) (cl : List vw_C) (tys : List (ClassId × FieldType)) (A : Nat → Prop) (wf : va_W) (v : Int32) : Array Value → State → Outcome → State → Prop :=
  va_Qi (fun (r : Int32) (_ : Unit) => r = v) (fun _ t => va_P D cl wf t.heap ∧ va_K D cl tys t ∧ va_D A wf) A
section MYC
variable {p : Program} {l : Launch} {e : Env} {R : Room} {s : State} {m : MethodId} {args : Array Value} {below : List Frame} {meth : Method} {c : Code} {H : Heap} {locs : List Loc} {cells slots : Nat} {Q : State → Prop}
variable {y : MethodName} {bytes cc : ByteArray} {maxL nL mc ms n index : Nat} {ret : Option FieldType} {ws : List Cond} {rm : Room} {Pc : Array Value → State → Prop} {Ts : List Cond} {own C : String} {As rest st0 : List Value} {pc : Nat} {ls : Array Slot}
variable {D : va_G} {cl : List vw_C} {A0 : Nat → Prop} {H0 : Heap} {ww wc wr wf : va_W} {tysc : List (ClassId × FieldType)}
theorem kw_callv {a : Array Value} (hr : va_Run p l e R s m args below meth c H locs cells slots mc ms (F0 m pc ls st0) rest (kw_Qv D cl tysc (va_A wc H.size) wf a) (va_A wc H.size)) (hP : va_P D cl ww H) (hD : va_D A0 ww) (hS : va_S A0 H0 H locs) (hA : ∀ q, H0.size ≤ q → A0 q) (isC isR : List Nat) (hC : isC.map (fun i => ww[i]?) = wc.map some) (hR : isR.map (fun i => ww[i]?) = wr.map some) (hn : va_nd isR = true) (hdis : ∀ i ∈ isR, i ∉ isC)
    (kk : ∀ (H1 : Heap) (locs1 : List Loc), va_P D cl (wr ++ wf) H1 → va_D A0 (wr ++ wf) → va_S A0 H0 H1 locs1 → W p l e R s m args below meth c H1 locs1 (cells + mc) (slots + ms) Q (F0 m (pc + 3) ls rest)) : W p l e R s m args below meth c H locs cells slots Q (F0 m pc ls st0) := by
  have hF := va_free hD hS hA isC hC
  refine va_callv hr hS (fun q _ h => hF q h) hF (fun u t H1 locs1 ht hvm hw hB hz1 hk1 hS1 => ?_)
  obtain ⟨hP1, -, hD1⟩ := hB
  rw [ht] at hP1
  obtain ⟨hP2, hD2⟩ := va_join hP hD isC isR hC hR hn hdis hk1 hF hP1 hD1
  exact kk H1 locs1 hP2 hD2 hS1
theorem kw_calli {a : Array Value} {v : Int32} (hr : va_Run p l e R s m args below meth c H locs cells slots mc ms (F0 m pc ls st0) rest (kw_Qi D cl tysc (va_A wc H.size) wf v a) (va_A wc H.size)) (hP : va_P D cl ww H) (hD : va_D A0 ww) (hS : va_S A0 H0 H locs) (hA : ∀ q, H0.size ≤ q → A0 q) (isC isR : List Nat) (hC : isC.map (fun i => ww[i]?) = wc.map some) (hR : isR.map (fun i => ww[i]?) = wr.map some) (hn : va_nd isR = true) (hdis : ∀ i ∈ isR, i ∉ isC)
    (kk : ∀ (H1 : Heap) (locs1 : List Loc), va_P D cl (wr ++ wf) H1 → va_D A0 (wr ++ wf) → va_S A0 H0 H1 locs1 → W p l e R s m args below meth c H1 locs1 (cells + mc) (slots + ms) Q (F0 m (pc + 3) ls (.int v :: rest))) : W p l e R s m args below meth c H locs cells slots Q (F0 m pc ls st0) := by
  have hF := va_free hD hS hA isC hC
  refine va_calli hr hS (fun q _ h => hF q h) hF (fun r u t H1 locs1 ht hvm hw hB hz1 hk1 hS1 => ?_)
  obtain ⟨hP1, -, hD1⟩ := hB
  rw [ht] at hP1
  obtain ⟨hP2, hD2⟩ := va_join hP hD isC isR hC hR hn hdis hk1 hF hP1 hD1
  subst hw
  exact kk H1 locs1 hP2 hD2 hS1
/-- the end of a method that writes, of a world ww whose cells at places 'is' are those of the contract -/
theorem kw_endv {tys : List (ClassId × FieldType)} {ww wf : va_W} {A : Nat → Prop} {t : State} (hP : va_P D cl ww H) (hD : va_D A ww) (hK : va_K D cl tys s) (hS : va_S A s.heap H locs) (is : List Nat) (h1 : is.filterMap (fun i => ww[i]?) = wf) (h2 : va_nd is = true) (h3 : is.map (fun i => ww[i]?) = wf.map some) (ht : t.heap = H) (hW : s.vm.Alike t.vm) : kw_Qv D cl tys A wf args s (.returned none) t :=
  ⟨⟨(), rfl, trivial, by rw [ht]; exact hP.sub is h1, va_K.moved hW hK, hD.sub is h2 h3⟩, hS.F ht⟩
theorem kw_endi {tys : List (ClassId × FieldType)} {ww wf : va_W} {A : Nat → Prop} {t : State} {v : Int32} (hP : va_P D cl ww H) (hD : va_D A ww) (hK : va_K D cl tys s) (hS : va_S A s.heap H locs) (is : List Nat) (h1 : is.filterMap (fun i => ww[i]?) = wf) (h2 : va_nd is = true) (h3 : is.map (fun i => ww[i]?) = wf.map some) (ht : t.heap = H) (hW : s.vm.Alike t.vm) : kw_Qi D cl tys A wf v args s (.returned (some (.int v))) t :=
  ⟨⟨v, (), rfl, rfl, by rw [ht]; exact hP.sub is h1, va_K.moved hW hK, hD.sub is h2 h3⟩, hS.F ht⟩
end MYC
