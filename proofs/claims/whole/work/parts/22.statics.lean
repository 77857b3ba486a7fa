/-! methods that read the class's two tables -/
def R_prod : String := "CoverHouse$Products"
/-- the tables POWERS (at tP) and INPUT_SETS (at tI) -/
def st_X (tP tI : Nat) (A : Nat → Prop) (U : State) (H : Heap) : Prop :=
  (va_Z R_prod "POWERS" "[I" (.ref tP) A U H ∧ va_T .int tP 5 (fun j => .int (nI (tpow j))) A U H) ∧ va_Z R_prod "INPUT_SETS" "[I" (.ref tI) A U H ∧ va_T .int tI 4 (fun j => .int (nI (iset j))) A U H
theorem st_X.moved {tP tI : Nat} {A : Nat → Prop} {u U : State} {H : Heap} (hvm : u.vm.Alike U.vm) (h : st_X tP tI A u H) : st_X tP tI A U H := ⟨⟨h.1.1.moved hvm, h.1.2.moved hvm⟩, h.2.1.moved hvm, h.2.2.moved hvm⟩
theorem st_X.kept {tP tI : Nat} {A : Nat → Prop} {U : State} {H H1 : Heap} (h : st_X tP tI A U H) (hq : ∀ a : Nat, a < H.size → ¬ A a → H1[a]? = H[a]?) : st_X tP tI A U H1 := ⟨⟨h.1.1.kept hq, h.1.2.kept hq⟩, h.2.1.kept hq, h.2.2.kept hq⟩
theorem st_X.narrow {tP tI : Nat} {A B : Nat → Prop} {U : State} {H : Heap} (h : st_X tP tI A U H) (hAB : ∀ q, B q → A q) : st_X tP tI B U H := ⟨⟨h.1.1.narrow hAB, h.1.2.narrow hAB⟩, h.2.1.narrow hAB, h.2.2.narrow hAB⟩
def kr_PX (tP tI : Nat) (av : List Value) (D : va_G) (cl : List vw_C) (ws : va_W) (tys : List (ClassId × FieldType)) : Array Value → State → Prop := fun a U => kr_P av D cl ws tys a U ∧ st_X tP tI (fun _ => False) U U.heap
theorem kr_blindX {tP tI : Nat} {av : List Value} {D : va_G} {cl : List vw_C} {ws : va_W} {tys : List (ClassId × FieldType)} : FrameBlind (kr_PX tP tI av D cl ws tys) := fun a U g mk q => ⟨kr_blind a U g mk q.1, st_X.moved (u := U) (U := U.calling g mk a) (Vm.Alike.refl U.vm) q.2⟩
section KX
variable {s : State} {H H0 : Heap} {D : va_G} {cl : List vw_C} {b ci q0 tP tI : Nat} {q : vw_C} {fs : List Value} {ws : va_W} {tys : List (ClassId × FieldType)} {As : List Value} {A : Nat → Prop} {locs : List Loc}
theorem st_X.at {U : State} {B : Nat → Prop} (hX : st_X tP tI A s s.heap) (hS : va_S A s.heap H locs) (hAB : ∀ q, B q → A q) (hU : U.heap = H) (hW : s.vm.Alike U.vm) : st_X tP tI B U U.heap := by
  rw [hU]
  exact ((hX.kept hS.2.1).narrow hAB).moved hW
theorem kr_VX (hK : va_K D cl tys s) (hP : va_P D cl ws H) (hc : cl[ci]? = some q) (he : ws[q0]? = some (b, .inr (ci, fs))) (hX : st_X tP tI A s s.heap) (hS : va_S A s.heap H locs) : PreV s H q.1 b (kr_PX tP tI (.ref b :: As) D cl ws tys) As :=
  ⟨kr_blindX, va_recv hK hP hc he, fun U hU hW => ⟨⟨rfl, by rw [hU]; exact hP, va_K.moved hW.alike hK⟩, hX.at hS (fun _ h => h.elim) hU hW.alike⟩⟩
theorem kr_SX (hK : va_K D cl tys s) (hP : va_P D cl ws H) (hX : st_X tP tI A s s.heap) (hS : va_S A s.heap H locs) : PreS s H (kr_PX tP tI As D cl ws tys) As :=
  ⟨kr_blindX, fun U hU hW => ⟨⟨rfl, by rw [hU]; exact hP, va_K.moved hW.alike hK⟩, hX.at hS (fun _ h => h.elim) hU hW.alike⟩⟩
def kw_PX (tP tI : Nat) (av : List Value) (sz : Nat) (D : va_G) (cl : List vw_C) (ws : va_W) (tys : List (ClassId × FieldType)) : Array Value → State → Prop := fun a U => kw_P av sz D cl ws tys a U ∧ st_X tP tI (va_A ws sz) U U.heap
theorem kw_blindX {sz : Nat} {av : List Value} : FrameBlind (kw_PX tP tI av sz D cl ws tys) := fun a U g mk q => ⟨kw_blind a U g mk q.1, st_X.moved (u := U) (U := U.calling g mk a) (Vm.Alike.refl U.vm) q.2⟩
theorem kw_VX (hK : va_K D cl tys s) (hP : va_P D cl ws H) (hD : va_D A ws) (hc : cl[ci]? = some q) (he : ws[q0]? = some (b, .inr (ci, fs))) (hX : st_X tP tI A s s.heap) (hS : va_S A s.heap H locs) (hF : ∀ q, va_A ws H.size q → A q) : PreV s H q.1 b (kw_PX tP tI (.ref b :: As) H.size D cl ws tys) As :=
  ⟨kw_blindX, va_recv hK hP hc he, fun U hU hW => ⟨⟨rfl, by rw [hU], by rw [hU]; exact hP, va_K.moved hW.alike hK, hD.weaken (fun _ _ _ _ => trivial)⟩, hX.at hS hF hU hW.alike⟩⟩
end KX
