/-! a method's own throw, seen from the heap where it happens -/
section RB
variable {p : Program} {l : Launch} {e : Env} {R : Room} {s : State} {m : MethodId} {args : Array Value} {below : List Frame} {meth : Method} {c : Code} {H : Heap} {locs : List Loc} {cells slots : Nat} {T : State}
/-- the state in which the method would have been called just now -/
def rb_now (s T : State) (m : MethodId) (args : Array Value) (below : List Frame) : State := (T.setVm s.vm).setFrames (.invoking m args :: below)
theorem rb_room (X : Stand p l e R s m args below meth c T locs cells slots) {k n : Nat} (hk : cells + k ≤ R.cells) (hn : slots + n ≤ R.slots) : (rb_now s T m args below).hasRoom e.platform { frames := R.frames, locals := R.locals, cells := k, slots := n } = true := by
  have hcur : (T.setVm s.vm).topJava?.isSome := X.here.top
  have hfr : (rb_now s T m args below).frames = .invoking m args :: below := State.frames_setFrames _ (State.cur_lt_of_top hcur)
  have hlo : (rb_now s T m args below).localsInUse = s.localsInUse := (State.localsInUse_invoking hfr X.method X.code).trans (State.localsInUse_invoking X.frames X.method X.code).symm
  have hli : e.platform.stackLimits (rb_now s T m args below).me = e.platform.stackLimits s.me := (State.stackLimits_setFrames _ _ _).trans X.limits
  have hby : (rb_now s T m args below).me.stackBytes = s.me.stackBytes := (State.stackBytes_setFrames _ _).trans X.bytes
  have hsz := X.heapSize
  have hus := X.used
  have hhp : (rb_now s T m args below).heap = T.heap := rfl
  have hsu : (rb_now s T m args below).slotsUsed = T.slotsUsed := rfl
  have h0 := X.room
  have hbk : (rb_now s T m args below).slotsTrue = true := X.book
  simp only [State.hasRoom, Bool.and_eq_true, decide_eq_true_eq, hfr, hlo, hli, hby, hhp, hsu, hbk, List.length_cons, X.frames] at h0 ⊢
  obtain ⟨⟨⟨⟨h1, h2, h3, h4, h5, h6⟩, h7⟩, h8⟩, h9⟩ := h0
  exact ⟨⟨⟨⟨by omega, by omega, by omega, by omega, by omega, h6⟩, by omega⟩, by omega⟩, trivial⟩
theorem rb_same (X : Stand p l e R s m args below meth c T locs cells slots) : (rb_now s T m args below).sameButNew (T.setVm (rb_now s T m args below).vm) [] 0 0 := by
  obtain ⟨g, hg⟩ := Option.isSome_iff_exists.mp (show (T.setVm s.vm).topJava?.isSome from X.here.top)
  obtain ⟨r, hr⟩ := State.topJava?_eq_some.mp hg
  obtain ⟨t, ht, -⟩ := State.frames_cons hr
  have hnil : T.heap.toList.drop T.heap.size = [] := List.drop_eq_nil_of_le (Nat.le_of_eq Array.length_toList)
  refine ⟨?_, Nat.le_refl _, Nat.le_refl _, ?_, ?_, fun a x h => ⟨x, h, rfl, rfl, fun _ _ => rfl⟩⟩
  · have e1 : (rb_now s T m args below).setFrames (T.setVm s.vm).frames = (T.setVm s.vm).setFrames (T.setVm s.vm).frames := State.setFrames_setFrames _ _ _
    show T.setVm s.vm = { (rb_now s T m args below).setFrames (T.setVm s.vm).frames with heap := T.heap, slotsUsed := T.slotsUsed }
    rw [e1, State.setFrames_self ht]
    rfl
  · show T.slotsUsed = T.slotsUsed + ((T.heap.toList.drop T.heap.size).map (·.slots.size)).sum
    rw [hnil]; rfl
  · show ((T.heap.toList.drop T.heap.size).map (·.slots.size)).sum ≤ 0
    rw [hnil]; exact Nat.le_refl _
theorem rb_stand (X : Stand p l e R s m args below meth c T locs cells slots) {k n : Nat} (hk : cells + k ≤ R.cells) (hn : slots + n ≤ R.slots) : Stand p l e { frames := R.frames, locals := R.locals, cells := k, slots := n } (rb_now s T m args below) m args below meth c T [] 0 0 where
  admits := X.admits
  cas := X.cas
  clock := X.clock
  frames := State.frames_setFrames _ (State.cur_lt_of_top (s := T.setVm s.vm) X.here.top)
  room := rb_room X hk hn
  hears := X.hears
  method := X.method
  code := X.code
  here := X.here
  tail := X.tail
  warmed := X.warmed
  limits := (State.stackLimits_setFrames _ _ _).symm
  bytes := (State.stackBytes_setFrames _ _).symm
  same := rb_same X
end RB
