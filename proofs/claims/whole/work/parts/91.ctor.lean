/-! constructors: an end that tells where the new cells lie -/
abbrev AC : Type := (Nat → Nat) × (Nat → ClassId)
def kw_Qn (D : va_G) (cl : List vw_C) (tys : AC → List (ClassId × FieldType)) (A : Nat → Prop) (post : AC → Prop) (w : AC → va_W) : Array Value → State → Outcome → State → Prop :=
  va_Qv post (fun u t => va_P D cl (w u) t.heap ∧ va_K D cl (tys u) t ∧ va_D A (w u)) A
def nn_L : List Cond := [.methodLinkNest "CoverHouse" 18 ⟨"CoverHouse$Search", "<init>", "()V"⟩ "CoverHouse", .methodLinkNest "CoverHouse$Search" 17 ⟨"CoverHouse$Candidates", "<init>", "()V"⟩ "CoverHouse"]
def nn_X (U : State) : Prop := ∀ w ∈ nn_L, va_Nw w U
theorem nn_on : ∀ w ∈ nn_L, w.onTables = true := by
  intro w hw
  simp only [nn_L, List.mem_cons, List.not_mem_nil, or_false] at hw
  rcases hw with rfl | rfl <;> rfl
theorem nn_X.same {u U : State} (hv : u.vm = U.vm) (h : nn_X u) : nn_X U := fun w hw => (h w hw).same (nn_on w hw) hv
theorem nn_X.warm {s U : State} (hW : s.WarmedH U.vm) (h : nn_X s) : nn_X U := by
  intro w hw
  have h1 := h w hw
  simp only [nn_L, List.mem_cons, List.not_mem_nil, or_false] at hw
  rcases hw with rfl | rfl
  · exact h1.warmM hW
  · exact h1.warmM hW
def kw_N (Pc : Array Value → State → Prop) : Array Value → State → Prop := fun a U => Pc a U ∧ nn_X U
theorem kw_Nblind {Pc : Array Value → State → Prop} (h : FrameBlind Pc) : FrameBlind (kw_N Pc) := fun a U g mk q => ⟨h a U g mk q.1, nn_X.same (u := U) (U := U.calling g mk a) rfl q.2⟩
theorem kw_NS {s : State} {H : Heap} {Pc : Array Value → State → Prop} {As : List Value} (h : PreS s H Pc As) (hnn : nn_X s) : PreS s H (kw_N Pc) As := ⟨kw_Nblind h.1, fun U hU hW => ⟨h.2 U hU hW, hnn.warm hW⟩⟩
theorem kw_SX {s : State} {H : Heap} {D : va_G} {cl : List vw_C} {ws : va_W} {tys : List (ClassId × FieldType)} {As : List Value} {A : Nat → Prop} {tP tI : Nat} {locs : List Loc} (hK : va_K D cl tys s) (hP : va_P D cl ws H) (hD : va_D A ws) (hX : st_X tP tI A s s.heap) (hS : va_S A s.heap H locs) (hF : ∀ q, va_A ws H.size q → A q) : PreS s H (kw_PX tP tI As H.size D cl ws tys) As :=
  ⟨kw_blindX, fun U hU hW => ⟨⟨rfl, by rw [hU], by rw [hU]; exact hP, va_K.moved hW.alike hK, hD.weaken (fun _ _ _ _ => trivial)⟩, hX.at hS hF hU hW.alike⟩⟩
section CTR
variable {p : Program} {l : Launch} {e : Env} {R : Room} {s : State} {m : MethodId} {args : Array Value} {below : List Frame} {meth : Method} {c : Code} {H : Heap} {locs : List Loc} {cells slots : Nat} {Q : State → Prop}
variable {mc ms : Nat} {rest st0 : List Value} {pc : Nat} {ls : Array Slot} {D : va_G} {cl : List vw_C} {A0 : Nat → Prop} {H0 : Heap} {ww wc wr : va_W} {tysw : List (ClassId × FieldType)} {tysc : AC → List (ClassId × FieldType)} {post : AC → Prop} {w : AC → va_W}
theorem kw_calln {a : Array Value} (hr : va_Run p l e R s m args below meth c H locs cells slots mc ms (F0 m pc ls st0) rest (kw_Qn D cl tysc (va_A wc H.size) post w a) (va_A wc H.size)) (hK : va_K D cl tysw s) (hP : va_P D cl ww H) (hD : va_D A0 ww) (hS : va_S A0 H0 H locs) (hA : ∀ q, H0.size ≤ q → A0 q) (isC isR : List Nat) (hC : isC.map (fun i => ww[i]?) = wc.map some) (hR : isR.map (fun i => ww[i]?) = wr.map some) (hn : va_nd isR = true) (hdis : ∀ i ∈ isR, i ∉ isC)
    (kk : ∀ (u : AC), post u → ∀ (H1 : Heap) (locs1 : List Loc), va_K D cl (tysw ++ tysc u) s → va_P D cl (wr ++ w u) H1 → va_D A0 (wr ++ w u) → va_S A0 H0 H1 locs1 → W p l e R s m args below meth c H1 locs1 (cells + mc) (slots + ms) Q (F0 m (pc + 3) ls rest)) : W p l e R s m args below meth c H locs cells slots Q (F0 m pc ls st0) := by
  have hF := va_free hD hS hA isC hC
  refine va_callv hr hS (fun q _ h => hF q h) hF (fun u t H1 locs1 ht hvm hw hB hz1 hk1 hS1 => ?_)
  obtain ⟨hP1, hK1, hD1⟩ := hB
  rw [ht] at hP1
  obtain ⟨hP2, hD2⟩ := va_join hP hD isC isR hC hR hn hdis hk1 hF hP1 hD1
  exact kk u hw H1 locs1 (hK.app (va_K.moved hvm.symm hK1)) hP2 hD2 hS1
theorem kw_endn {A : Nat → Prop} {t : State} (u : AC) (hu : post u) (hP : va_P D cl ww H) (hD : va_D A ww) (hK : va_K D cl (tysc u) s) (hS : va_S A s.heap H locs) (is : List Nat) (h1 : is.filterMap (fun i => ww[i]?) = w u) (h2 : va_nd is = true) (h3 : is.map (fun i => ww[i]?) = (w u).map some) (ht : t.heap = H) (hW : s.vm.Alike t.vm) : kw_Qn D cl tysc A post w args s (.returned none) t :=
  ⟨⟨u, rfl, hu, by rw [ht]; exact hP.sub is h1, va_K.moved hW hK, hD.sub is h2 h3⟩, hS.F ht⟩
end CTR
/-- the products' two tables, as the constructor lays them -/
def prIf : Nat → (Nat → Int32) → (Nat → Int32) := fun p f => upd f p (nI (fo (mc_dsf p) 4 (65535, 0)).1)
def prSf : Nat → (Nat → Int32) → (Nat → Int32) := fun p f => upd f p (nI (fo (mc_dsf p) 4 (65535, 0)).2)
def prI : Nat → Int32 := fo prIf 81 (fun _ => 0)
def prS : Nat → Int32 := fo prSf 81 (fun _ => 0)
theorem nw_i (N : Nat) : ∀ cA : ClassId, vp_cell cA ((N, .inl (fun _ => 0)) : vp_A) = arrV cA N (fun _ => defaultValue .int) := fun _ => rfl
theorem nw_z (N : Nat) : ∀ cA : ClassId, vp_cell cA ((N, .inl (fun _ => 0)) : vp_A) = arrV cA N (fun _ => defaultValue .boolean) := fun _ => rfl
theorem nw_l (N : Nat) : ∀ cA : ClassId, vp_cell cA ((N, .inr (.inl (fun _ => 0))) : vp_A) = arrV cA N (fun _ => defaultValue .long) := fun _ => rfl
