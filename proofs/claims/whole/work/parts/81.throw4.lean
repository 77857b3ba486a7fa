/-! what the throwing contracts say of their start and end -/
def tw_chk (ws : List Cond) : Bool := ws.all (fun w => ((goodWord w && w.onTables && lw_tbl.any (fun v => decide (v = w))) || ol_ws.any (fun v => decide (v = w))) || nk_L.any (fun v => decide (v = w)))
theorem tw_any {l : List Cond} {a : Cond} (h : l.any (fun v => decide (v = a)) = true) : a ∈ l := by
  obtain ⟨v, hv, e⟩ := List.any_eq_true.mp h
  rw [← of_decide_eq_true e]
  exact hv
theorem tw_chk_ok {ws : List Cond} (h : tw_chk ws = true) : ∀ a ∈ ws, ((a ∈ LW ∧ a.onTables = true) ∨ a ∈ ol_ws) ∨ a ∈ nk_L := by
  intro a ha
  have h1 := List.all_eq_true.mp h a ha
  rw [Bool.or_eq_true, Bool.or_eq_true, Bool.and_eq_true, Bool.and_eq_true] at h1
  rcases h1 with (h2 | h2) | h2
  · exact Or.inl (Or.inl ⟨List.mem_filter.mpr ⟨tw_any h2.2, h2.1.1⟩, h2.1.2⟩)
  · exact Or.inl (Or.inr (tw_any h2))
  · exact Or.inr (tw_any h2)
set_option maxRecDepth 100000 in
theorem tk_IAE : tw_ok "java/lang/IllegalArgumentException" 32 36 := ⟨by decide +kernel, mw_331, mw_332, mw_48, tw_chk_ok (by decide +kernel)⟩
set_option maxRecDepth 100000 in
theorem tk_IOB : tw_ok "java/lang/IndexOutOfBoundsException" 45 49 := ⟨by decide +kernel, mw_411, mw_412, mw_49, tw_chk_ok (by decide +kernel)⟩
/-- the texts of the class's throws -/
def ss_L : List (Nat × String) := [(34, "inputs are 1 to 4"), (39, "outputs are 1 to 2"), (47, "no such output"), (54, "a set has inputs that there aren't"), (56, "the sets have inputs in common"), (70, "no such candidate"), (87, "what is 0 to 4"), (98, "the least cover has no such candidate"), (106, "no such inputs")]
def ss_X (sa : Nat → Nat) (U : State) : Prop := (∀ q ∈ ss_L, vk_R R_H q.1 q.2 (sa q.1) U) ∧ nk_X U ∧ va_Nc "java/lang/IllegalArgumentException" "java/lang/IndexOutOfBoundsException" U
theorem ss_X.warm {sa : Nat → Nat} {s U : State} (hW : s.WarmedH U.vm) (h : ss_X sa s) : ss_X sa U := ⟨fun q hq => (h.1 q hq).warm hW, h.2.1.warm hW, h.2.2.moved hW.alike⟩
theorem ss_X.same {sa : Nat → Nat} {u U : State} (hv : U.vm = u.vm) (h : ss_X sa u) : ss_X sa U := ⟨fun q hq => (h.1 q hq).same hv, h.2.1.same hv.symm, h.2.2.moved (by rw [hv]; exact Vm.Alike.refl _)⟩
/-- the start of a method that throws -/
def kw_T (sa : Nat → Nat) (A : Nat → Prop) (Pc : Array Value → State → Prop) : Array Value → State → Prop := fun a U => Pc a U ∧ ol_X A U U.heap ∧ ss_X sa U
theorem kw_Tblind {sa : Nat → Nat} {A : Nat → Prop} {Pc : Array Value → State → Prop} (h : FrameBlind Pc) : FrameBlind (kw_T sa A Pc) := fun a U g mk q => ⟨h a U g mk q.1, ol_X.moved (u := U) (U := U.calling g mk a) (Vm.Alike.refl U.vm) q.2.1, ss_X.same (u := U) (U := U.calling g mk a) rfl q.2.2⟩
/-- the world behind it -/
def tw_W (D : va_G) (cl : List vw_C) (tys : List (ClassId × FieldType)) (A : Nat → Prop) (wf : va_W) (t : State) : Prop := va_P D cl wf t.heap ∧ va_K D cl tys t ∧ va_D A wf
theorem tw_B {s : State} {D : va_G} {cl : List vw_C} {tys : List (ClassId × FieldType)} {A : Nat → Prop} {ww wf : va_W} {H : Heap} (hP : va_P D cl ww H) (hD : va_D A ww) (hK : va_K D cl tys s) (is : List Nat) (h1 : is.filterMap (fun i => ww[i]?) = wf) (h2 : va_nd is = true) (h3 : is.map (fun i => ww[i]?) = wf.map some) :
    ∀ t : State, H.size ≤ t.heap.size → (∀ a : Nat, a < H.size → t.heap[a]? = H[a]?) → s.vm.Alike t.vm → tw_W D cl tys A wf t := by
  intro t _ hk hW
  have h9 : va_P D cl ww t.heap := fun i q hq => (hP i q hq).kept (hk q.1 (hP i q hq).lt)
  exact ⟨h9.sub is h1, va_K.moved hW hK, hD.sub is h2 h3⟩
theorem io_t {k mo : Nat} (hk : k < mo) (hmo : mo ≤ 2) : (!decide (nI k < 0) && !decide (nI mo ≤ nI k)) = true := by
  rw [decide_eq_false (nI_pos (by omega)), decide_eq_false (fun h => by have := (nI_leI (by omega) (by omega)).mp h; omega)]
  rfl
