theorem mw_39 : (Jvm.Cond.initialized "CoverHouseLaw") ∈ LW := LW_at 39 (by decide +kernel) (by decide +kernel)
theorem mw_204 : (Jvm.Cond.methodLink "CoverHouseLaw" (51 : Nat) ({ cls := "CoverHouse", name := "candidates", desc := "()I" } : Jvm.MethodName)) ∈ LW := LW_at 204 (by decide +kernel) (by decide +kernel)
theorem mw_205 : (Jvm.Cond.instanceMethod ({ cls := "CoverHouse", name := "candidates", desc := "()I" } : Jvm.MethodName)) ∈ LW := LW_at 205 (by decide +kernel) (by decide +kernel)
theorem mw_206 : (Jvm.Cond.selects "CoverHouse" ({ cls := "CoverHouse", name := "candidates", desc := "()I" } : Jvm.MethodName) ({ cls := "CoverHouse", name := "candidates", desc := "()I" } : Jvm.MethodName)) ∈ LW := LW_at 206 (by decide +kernel) (by decide +kernel)
theorem mw_207 : (Jvm.Cond.code ({ cls := "CoverHouse", name := "candidates", desc := "()I" } : Jvm.MethodName) prog_1_method_4_code (1 : Nat) (Option.some Jvm.ClassFile.FieldType.int)) ∈ LW := LW_at 207 (by decide +kernel) (by decide +kernel)
theorem mw_243 : (Jvm.Cond.methodLink "CoverHouseLaw" (59 : Nat) ({ cls := "CoverHouse", name := "least", desc := "()I" } : Jvm.MethodName)) ∈ LW := LW_at 243 (by decide +kernel) (by decide +kernel)
theorem mw_244 : (Jvm.Cond.instanceMethod ({ cls := "CoverHouse", name := "least", desc := "()I" } : Jvm.MethodName)) ∈ LW := LW_at 244 (by decide +kernel) (by decide +kernel)
theorem mw_245 : (Jvm.Cond.selects "CoverHouse" ({ cls := "CoverHouse", name := "least", desc := "()I" } : Jvm.MethodName) ({ cls := "CoverHouse", name := "least", desc := "()I" } : Jvm.MethodName)) ∈ LW := LW_at 245 (by decide +kernel) (by decide +kernel)
theorem mw_246 : (Jvm.Cond.code ({ cls := "CoverHouse", name := "least", desc := "()I" } : Jvm.MethodName) prog_1_method_6_code (1 : Nat) (Option.some Jvm.ClassFile.FieldType.int)) ∈ LW := LW_at 246 (by decide +kernel) (by decide +kernel)
theorem mw_306 : (Jvm.Cond.methodLink "CoverHouseLaw" (63 : Nat) ({ cls := "CoverHouse", name := "parts", desc := "()I" } : Jvm.MethodName)) ∈ LW := LW_at 306 (by decide +kernel) (by decide +kernel)
theorem mw_307 : (Jvm.Cond.instanceMethod ({ cls := "CoverHouse", name := "parts", desc := "()I" } : Jvm.MethodName)) ∈ LW := LW_at 307 (by decide +kernel) (by decide +kernel)
theorem mw_308 : (Jvm.Cond.selects "CoverHouse" ({ cls := "CoverHouse", name := "parts", desc := "()I" } : Jvm.MethodName) ({ cls := "CoverHouse", name := "parts", desc := "()I" } : Jvm.MethodName)) ∈ LW := LW_at 308 (by decide +kernel) (by decide +kernel)
theorem mw_309 : (Jvm.Cond.code ({ cls := "CoverHouse", name := "parts", desc := "()I" } : Jvm.MethodName) prog_1_method_7_code (1 : Nat) (Option.some Jvm.ClassFile.FieldType.int)) ∈ LW := LW_at 309 (by decide +kernel) (by decide +kernel)
theorem mw_310 : (Jvm.Cond.methodLink "CoverHouseLaw" (74 : Nat) ({ cls := "CoverHouse", name := "thinned", desc := "(I)I" } : Jvm.MethodName)) ∈ LW := LW_at 310 (by decide +kernel) (by decide +kernel)
theorem mw_311 : (Jvm.Cond.instanceMethod ({ cls := "CoverHouse", name := "thinned", desc := "(I)I" } : Jvm.MethodName)) ∈ LW := LW_at 311 (by decide +kernel) (by decide +kernel)
theorem mw_312 : (Jvm.Cond.selects "CoverHouse" ({ cls := "CoverHouse", name := "thinned", desc := "(I)I" } : Jvm.MethodName) ({ cls := "CoverHouse", name := "thinned", desc := "(I)I" } : Jvm.MethodName)) ∈ LW := LW_at 312 (by decide +kernel) (by decide +kernel)
theorem mw_313 : (Jvm.Cond.code ({ cls := "CoverHouse", name := "thinned", desc := "(I)I" } : Jvm.MethodName) prog_1_method_10_code (2 : Nat) (Option.some Jvm.ClassFile.FieldType.int)) ∈ LW := LW_at 313 (by decide +kernel) (by decide +kernel)
theorem mw_323 : (Jvm.Cond.methodLink "CoverHouseLaw" (37 : Nat) ({ cls := "CoverHouseLaw", name := "begin", desc := "(LCoverHouse;II)I" } : Jvm.MethodName)) ∈ LW := LW_at 323 (by decide +kernel) (by decide +kernel)
theorem mw_324 : (Jvm.Cond.static ({ cls := "CoverHouseLaw", name := "begin", desc := "(LCoverHouse;II)I" } : Jvm.MethodName)) ∈ LW := LW_at 324 (by decide +kernel) (by decide +kernel)
theorem mw_325 : (Jvm.Cond.codeWith ({ cls := "CoverHouseLaw", name := "begin", desc := "(LCoverHouse;II)I" } : Jvm.MethodName) method_3_code (4 : Nat) (Option.some Jvm.ClassFile.FieldType.int) [((0 : Nat), (6 : Nat), (9 : Nat), (13 : Nat))]) ∈ LW := LW_at 325 (by decide +kernel) (by decide +kernel)
theorem mw_399 : (Jvm.Cond.methodLink "CoverHouseLaw" (47 : Nat) ({ cls := "CoverHouseLaw", name := "set", desc := "(LCoverHouse;III)I" } : Jvm.MethodName)) ∈ LW := LW_at 399 (by decide +kernel) (by decide +kernel)
theorem mw_400 : (Jvm.Cond.static ({ cls := "CoverHouseLaw", name := "set", desc := "(LCoverHouse;III)I" } : Jvm.MethodName)) ∈ LW := LW_at 400 (by decide +kernel) (by decide +kernel)
theorem mw_401 : (Jvm.Cond.codeWith ({ cls := "CoverHouseLaw", name := "set", desc := "(LCoverHouse;III)I" } : Jvm.MethodName) method_4_code (5 : Nat) (Option.some Jvm.ClassFile.FieldType.int) [((0 : Nat), (7 : Nat), (10 : Nat), (19 : Nat)), ((0 : Nat), (7 : Nat), (14 : Nat), (13 : Nat))]) ∈ LW := LW_at 401 (by decide +kernel) (by decide +kernel)
theorem mw_429 : (Jvm.Cond.methodLink "CoverHouseLaw" (55 : Nat) ({ cls := "CoverHouseLaw", name := "candidate", desc := "(LCoverHouse;II[J)I" } : Jvm.MethodName)) ∈ LW := LW_at 429 (by decide +kernel) (by decide +kernel)
theorem mw_430 : (Jvm.Cond.static ({ cls := "CoverHouseLaw", name := "candidate", desc := "(LCoverHouse;II[J)I" } : Jvm.MethodName)) ∈ LW := LW_at 430 (by decide +kernel) (by decide +kernel)
theorem mw_431 : (Jvm.Cond.codeWith ({ cls := "CoverHouseLaw", name := "candidate", desc := "(LCoverHouse;II[J)I" } : Jvm.MethodName) method_5_code (5 : Nat) (Option.some Jvm.ClassFile.FieldType.int) [((0 : Nat), (10 : Nat), (13 : Nat), (19 : Nat)), ((0 : Nat), (10 : Nat), (17 : Nat), (13 : Nat))]) ∈ LW := LW_at 431 (by decide +kernel) (by decide +kernel)
theorem mw_442 : (Jvm.Cond.methodLink "CoverHouseLaw" (67 : Nat) ({ cls := "CoverHouseLaw", name := "chosen", desc := "(LCoverHouse;I[J)I" } : Jvm.MethodName)) ∈ LW := LW_at 442 (by decide +kernel) (by decide +kernel)
theorem mw_443 : (Jvm.Cond.static ({ cls := "CoverHouseLaw", name := "chosen", desc := "(LCoverHouse;I[J)I" } : Jvm.MethodName)) ∈ LW := LW_at 443 (by decide +kernel) (by decide +kernel)
theorem mw_444 : (Jvm.Cond.codeWith ({ cls := "CoverHouseLaw", name := "chosen", desc := "(LCoverHouse;I[J)I" } : Jvm.MethodName) method_6_code (4 : Nat) (Option.some Jvm.ClassFile.FieldType.int) [((0 : Nat), (9 : Nat), (12 : Nat), (19 : Nat))]) ∈ LW := LW_at 444 (by decide +kernel) (by decide +kernel)
theorem mw_450 : (Jvm.Cond.methodLink "CoverHouseLaw" (71 : Nat) ({ cls := "CoverHouseLaw", name := "value", desc := "(LCoverHouse;II[J)I" } : Jvm.MethodName)) ∈ LW := LW_at 450 (by decide +kernel) (by decide +kernel)
theorem mw_451 : (Jvm.Cond.static ({ cls := "CoverHouseLaw", name := "value", desc := "(LCoverHouse;II[J)I" } : Jvm.MethodName)) ∈ LW := LW_at 451 (by decide +kernel) (by decide +kernel)
theorem mw_452 : (Jvm.Cond.codeWith ({ cls := "CoverHouseLaw", name := "value", desc := "(LCoverHouse;II[J)I" } : Jvm.MethodName) method_7_code (5 : Nat) (Option.some Jvm.ClassFile.FieldType.int) [((0 : Nat), (17 : Nat), (20 : Nat), (19 : Nat)), ((0 : Nat), (17 : Nat), (24 : Nat), (13 : Nat))]) ∈ LW := LW_at 452 (by decide +kernel) (by decide +kernel)
theorem mw_570 : (Jvm.Cond.methodLink "CoverHouseLaw" (43 : Nat) ({ cls := "CoverHouseModel", name := "thrown", desc := "()I" } : Jvm.MethodName)) ∈ LW := LW_at 570 (by decide +kernel) (by decide +kernel)
theorem mw_571 : (Jvm.Cond.instanceMethod ({ cls := "CoverHouseModel", name := "thrown", desc := "()I" } : Jvm.MethodName)) ∈ LW := LW_at 571 (by decide +kernel) (by decide +kernel)
theorem mw_572 : (Jvm.Cond.selects "CoverHouseModel" ({ cls := "CoverHouseModel", name := "thrown", desc := "()I" } : Jvm.MethodName) ({ cls := "CoverHouseModel", name := "thrown", desc := "()I" } : Jvm.MethodName)) ∈ LW := LW_at 572 (by decide +kernel) (by decide +kernel)
theorem mw_573 : (Jvm.Cond.code ({ cls := "CoverHouseModel", name := "thrown", desc := "()I" } : Jvm.MethodName) prog_6_method_2_code (1 : Nat) (Option.some Jvm.ClassFile.FieldType.int)) ∈ LW := LW_at 573 (by decide +kernel) (by decide +kernel)
theorem mw_574 : (Jvm.Cond.methodLink "CoverHouseLaw" (42 : Nat) ({ cls := "CoverHouseModel", name := "begin", desc := "(II)V" } : Jvm.MethodName)) ∈ LW := LW_at 574 (by decide +kernel) (by decide +kernel)
theorem mw_575 : (Jvm.Cond.instanceMethod ({ cls := "CoverHouseModel", name := "begin", desc := "(II)V" } : Jvm.MethodName)) ∈ LW := LW_at 575 (by decide +kernel) (by decide +kernel)
theorem mw_576 : (Jvm.Cond.selects "CoverHouseModel" ({ cls := "CoverHouseModel", name := "begin", desc := "(II)V" } : Jvm.MethodName) ({ cls := "CoverHouseModel", name := "begin", desc := "(II)V" } : Jvm.MethodName)) ∈ LW := LW_at 576 (by decide +kernel) (by decide +kernel)
theorem mw_577 : (Jvm.Cond.code ({ cls := "CoverHouseModel", name := "begin", desc := "(II)V" } : Jvm.MethodName) prog_6_method_5_code (4 : Nat) (Option.none : Option Jvm.ClassFile.FieldType)) ∈ LW := LW_at 577 (by decide +kernel) (by decide +kernel)
theorem mw_585 : (Jvm.Cond.methodLink "CoverHouseLaw" (50 : Nat) ({ cls := "CoverHouseModel", name := "set", desc := "(III)V" } : Jvm.MethodName)) ∈ LW := LW_at 585 (by decide +kernel) (by decide +kernel)
theorem mw_586 : (Jvm.Cond.instanceMethod ({ cls := "CoverHouseModel", name := "set", desc := "(III)V" } : Jvm.MethodName)) ∈ LW := LW_at 586 (by decide +kernel) (by decide +kernel)
theorem mw_587 : (Jvm.Cond.selects "CoverHouseModel" ({ cls := "CoverHouseModel", name := "set", desc := "(III)V" } : Jvm.MethodName) ({ cls := "CoverHouseModel", name := "set", desc := "(III)V" } : Jvm.MethodName)) ∈ LW := LW_at 587 (by decide +kernel) (by decide +kernel)
theorem mw_588 : (Jvm.Cond.code ({ cls := "CoverHouseModel", name := "set", desc := "(III)V" } : Jvm.MethodName) prog_6_method_7_code (6 : Nat) (Option.none : Option Jvm.ClassFile.FieldType)) ∈ LW := LW_at 588 (by decide +kernel) (by decide +kernel)
theorem mw_593 : (Jvm.Cond.methodLink "CoverHouseLaw" (54 : Nat) ({ cls := "CoverHouseModel", name := "candidates", desc := "()I" } : Jvm.MethodName)) ∈ LW := LW_at 593 (by decide +kernel) (by decide +kernel)
theorem mw_594 : (Jvm.Cond.instanceMethod ({ cls := "CoverHouseModel", name := "candidates", desc := "()I" } : Jvm.MethodName)) ∈ LW := LW_at 594 (by decide +kernel) (by decide +kernel)
theorem mw_595 : (Jvm.Cond.selects "CoverHouseModel" ({ cls := "CoverHouseModel", name := "candidates", desc := "()I" } : Jvm.MethodName) ({ cls := "CoverHouseModel", name := "candidates", desc := "()I" } : Jvm.MethodName)) ∈ LW := LW_at 595 (by decide +kernel) (by decide +kernel)
theorem mw_596 : (Jvm.Cond.code ({ cls := "CoverHouseModel", name := "candidates", desc := "()I" } : Jvm.MethodName) prog_6_method_15_code (1 : Nat) (Option.some Jvm.ClassFile.FieldType.int)) ∈ LW := LW_at 596 (by decide +kernel) (by decide +kernel)
theorem mw_665 : (Jvm.Cond.methodLink "CoverHouseLaw" (58 : Nat) ({ cls := "CoverHouseModel", name := "candidate", desc := "(II)I" } : Jvm.MethodName)) ∈ LW := LW_at 665 (by decide +kernel) (by decide +kernel)
theorem mw_666 : (Jvm.Cond.instanceMethod ({ cls := "CoverHouseModel", name := "candidate", desc := "(II)I" } : Jvm.MethodName)) ∈ LW := LW_at 666 (by decide +kernel) (by decide +kernel)
theorem mw_667 : (Jvm.Cond.selects "CoverHouseModel" ({ cls := "CoverHouseModel", name := "candidate", desc := "(II)I" } : Jvm.MethodName) ({ cls := "CoverHouseModel", name := "candidate", desc := "(II)I" } : Jvm.MethodName)) ∈ LW := LW_at 667 (by decide +kernel) (by decide +kernel)
theorem mw_668 : (Jvm.Cond.code ({ cls := "CoverHouseModel", name := "candidate", desc := "(II)I" } : Jvm.MethodName) prog_6_method_17_code (4 : Nat) (Option.some Jvm.ClassFile.FieldType.int)) ∈ LW := LW_at 668 (by decide +kernel) (by decide +kernel)
theorem mw_673 : (Jvm.Cond.methodLink "CoverHouseLaw" (62 : Nat) ({ cls := "CoverHouseModel", name := "least", desc := "()I" } : Jvm.MethodName)) ∈ LW := LW_at 673 (by decide +kernel) (by decide +kernel)
theorem mw_674 : (Jvm.Cond.instanceMethod ({ cls := "CoverHouseModel", name := "least", desc := "()I" } : Jvm.MethodName)) ∈ LW := LW_at 674 (by decide +kernel) (by decide +kernel)
theorem mw_675 : (Jvm.Cond.selects "CoverHouseModel" ({ cls := "CoverHouseModel", name := "least", desc := "()I" } : Jvm.MethodName) ({ cls := "CoverHouseModel", name := "least", desc := "()I" } : Jvm.MethodName)) ∈ LW := LW_at 675 (by decide +kernel) (by decide +kernel)
theorem mw_676 : (Jvm.Cond.code ({ cls := "CoverHouseModel", name := "least", desc := "()I" } : Jvm.MethodName) prog_6_method_28_code (1 : Nat) (Option.some Jvm.ClassFile.FieldType.int)) ∈ LW := LW_at 676 (by decide +kernel) (by decide +kernel)
theorem mw_677 : (Jvm.Cond.methodLink "CoverHouseLaw" (66 : Nat) ({ cls := "CoverHouseModel", name := "parts", desc := "()I" } : Jvm.MethodName)) ∈ LW := LW_at 677 (by decide +kernel) (by decide +kernel)
theorem mw_678 : (Jvm.Cond.instanceMethod ({ cls := "CoverHouseModel", name := "parts", desc := "()I" } : Jvm.MethodName)) ∈ LW := LW_at 678 (by decide +kernel) (by decide +kernel)
theorem mw_679 : (Jvm.Cond.selects "CoverHouseModel" ({ cls := "CoverHouseModel", name := "parts", desc := "()I" } : Jvm.MethodName) ({ cls := "CoverHouseModel", name := "parts", desc := "()I" } : Jvm.MethodName)) ∈ LW := LW_at 679 (by decide +kernel) (by decide +kernel)
theorem mw_680 : (Jvm.Cond.code ({ cls := "CoverHouseModel", name := "parts", desc := "()I" } : Jvm.MethodName) prog_6_method_29_code (3 : Nat) (Option.some Jvm.ClassFile.FieldType.int)) ∈ LW := LW_at 680 (by decide +kernel) (by decide +kernel)
theorem mw_681 : (Jvm.Cond.methodLink "CoverHouseLaw" (70 : Nat) ({ cls := "CoverHouseModel", name := "chosen", desc := "(I)I" } : Jvm.MethodName)) ∈ LW := LW_at 681 (by decide +kernel) (by decide +kernel)
theorem mw_682 : (Jvm.Cond.instanceMethod ({ cls := "CoverHouseModel", name := "chosen", desc := "(I)I" } : Jvm.MethodName)) ∈ LW := LW_at 682 (by decide +kernel) (by decide +kernel)
theorem mw_683 : (Jvm.Cond.selects "CoverHouseModel" ({ cls := "CoverHouseModel", name := "chosen", desc := "(I)I" } : Jvm.MethodName) ({ cls := "CoverHouseModel", name := "chosen", desc := "(I)I" } : Jvm.MethodName)) ∈ LW := LW_at 683 (by decide +kernel) (by decide +kernel)
theorem mw_684 : (Jvm.Cond.code ({ cls := "CoverHouseModel", name := "chosen", desc := "(I)I" } : Jvm.MethodName) prog_6_method_30_code (2 : Nat) (Option.some Jvm.ClassFile.FieldType.int)) ∈ LW := LW_at 684 (by decide +kernel) (by decide +kernel)
theorem mw_685 : (Jvm.Cond.methodLink "CoverHouseLaw" (73 : Nat) ({ cls := "CoverHouseModel", name := "value", desc := "(II)Z" } : Jvm.MethodName)) ∈ LW := LW_at 685 (by decide +kernel) (by decide +kernel)
theorem mw_686 : (Jvm.Cond.instanceMethod ({ cls := "CoverHouseModel", name := "value", desc := "(II)Z" } : Jvm.MethodName)) ∈ LW := LW_at 686 (by decide +kernel) (by decide +kernel)
theorem mw_687 : (Jvm.Cond.selects "CoverHouseModel" ({ cls := "CoverHouseModel", name := "value", desc := "(II)Z" } : Jvm.MethodName) ({ cls := "CoverHouseModel", name := "value", desc := "(II)Z" } : Jvm.MethodName)) ∈ LW := LW_at 687 (by decide +kernel) (by decide +kernel)
theorem mw_688 : (Jvm.Cond.code ({ cls := "CoverHouseModel", name := "value", desc := "(II)Z" } : Jvm.MethodName) prog_6_method_31_code (6 : Nat) (Option.some Jvm.ClassFile.FieldType.boolean)) ∈ LW := LW_at 688 (by decide +kernel) (by decide +kernel)
theorem mw_689 : (Jvm.Cond.methodLink "CoverHouseLaw" (77 : Nat) ({ cls := "CoverHouseModel", name := "thinned", desc := "(I)I" } : Jvm.MethodName)) ∈ LW := LW_at 689 (by decide +kernel) (by decide +kernel)
theorem mw_690 : (Jvm.Cond.instanceMethod ({ cls := "CoverHouseModel", name := "thinned", desc := "(I)I" } : Jvm.MethodName)) ∈ LW := LW_at 690 (by decide +kernel) (by decide +kernel)
theorem mw_691 : (Jvm.Cond.selects "CoverHouseModel" ({ cls := "CoverHouseModel", name := "thinned", desc := "(I)I" } : Jvm.MethodName) ({ cls := "CoverHouseModel", name := "thinned", desc := "(I)I" } : Jvm.MethodName)) ∈ LW := LW_at 691 (by decide +kernel) (by decide +kernel)
theorem mw_692 : (Jvm.Cond.code ({ cls := "CoverHouseModel", name := "thinned", desc := "(I)I" } : Jvm.MethodName) prog_6_method_33_code (14 : Nat) (Option.some Jvm.ClassFile.FieldType.int)) ∈ LW := LW_at 692 (by decide +kernel) (by decide +kernel)
/-! the law: its rows, what holds all the way, where a call comes to -/
def R_law : String := "CoverHouseLaw"
def lw_P (b : Addr) (xs : List Int32) (args : Array Value) (s : State) : Prop := args = #[.ref b] ∧ s.IntsAt b xs ∧ xs.length ≤ 2048 ∧ (Jvm.Cond.and given_1 narrow_1).before args s = true
def lw_Q (_ : Array Value) (s : State) (o : Outcome) (t : State) : Prop := o = .returned (some (.int 1)) ∧ Framed s o t [] 601024 7293034
def lw_Z (below : List Frame) (a : Array Value) (s : State) : State → Prop := fun t => ∃ o, t.status = .running ∧ Ended t below o ∧ lw_Q a s o t
/-- the law's own end, with 1 on the stack, nothing written that was there before, its room as the claim has it -/
theorem lw_ret {p : Program} {l : Launch} {e : Env} {s : State} {m : MethodId} {below : List Frame} {meth : Method} {c : Code} {b : Nat} (hx : p.tables.exec = Jvm.exec) (hb : c.code = code) (hr : meth.sig.returnType = ret) (hlocks : meth.locks = false) {pc : Nat} {H : Heap} {ls : Array Slot} (hdg : decode code pc = .ok (.ireturn, 1)) : W p l e room_1 s m #[Value.ref b] below meth c H [] 601024 7293034 (lw_Z below #[Value.ref b] s) (F0 m pc ls [.int 1]) := by
  intro T hT X
  obtain ⟨fs, hret, hrun, hended, hW, hframe⟩ := X.leave (v := some (.int 1)) (hlocks := hlocks) (fun h => by rw [hr] at h; cases h)
  have hmeth' : T.vm.method? m = some meth := X.method'
  refine ⟨T.setFrames fs, ?_, .returned (some (.int 1)), hrun, hended, rfl, ⟨_, rfl⟩, hW, hframe⟩
  jvm_step X.here [X.here.top, hx, hb, hdg, hmeth', hr, ret, narrow_b1]
  (try refine ⟨rfl, ?_⟩); (try refine ⟨rfl, ?_⟩)
  first | (intro acts; rw [hret _ acts rfl rfl rfl]) | rw [hret _ _ rfl rfl rfl]
  exact Steps.refl _
theorem d_L_law_0 : decode code 0 = .ok (.new 8, 3) := by decide +kernel
theorem d_L_law_3 : decode code 3 = .ok (.dup, 1) := by decide +kernel
theorem d_L_law_4 : decode code 4 = .ok (.invokespecial 33, 3) := by decide +kernel
theorem d_L_law_7 : decode code 7 = .ok (.astore_n 1, 1) := by decide +kernel
theorem d_L_law_8 : decode code 8 = .ok (.new 34, 3) := by decide +kernel
theorem d_L_law_11 : decode code 11 = .ok (.dup, 1) := by decide +kernel
theorem d_L_law_12 : decode code 12 = .ok (.invokespecial 36, 3) := by decide +kernel
theorem d_L_law_15 : decode code 15 = .ok (.astore_n 2, 1) := by decide +kernel
theorem d_L_law_16 : decode code 16 = .ok (.iconst 1, 1) := by decide +kernel
theorem d_L_law_17 : decode code 17 = .ok (.newarray .long, 2) := by decide +kernel
theorem d_L_law_19 : decode code 19 = .ok (.astore_n 3, 1) := by decide +kernel
theorem d_L_law_20 : decode code 20 = .ok (.iconst 0, 1) := by decide +kernel
theorem d_L_law_21 : decode code 21 = .ok (.istore 4, 2) := by decide +kernel
theorem d_L_law_23 : decode code 23 = .ok (.iload 4, 2) := by decide +kernel
theorem d_L_law_25 : decode code 25 = .ok (.aload_n 0, 1) := by decide +kernel
theorem d_L_law_26 : decode code 26 = .ok (.arraylength, 1) := by decide +kernel
theorem d_L_law_27 : decode code 27 = .ok (.iconst 4, 1) := by decide +kernel
theorem d_L_law_28 : decode code 28 = .ok (.isub, 1) := by decide +kernel
theorem d_L_law_29 : decode code 29 = .ok (.if_icmp .gt 436, 3) := by decide +kernel
theorem d_L_law_32 : decode code 32 = .ok (.aload_n 0, 1) := by decide +kernel
theorem d_L_law_33 : decode code 33 = .ok (.iload 4, 2) := by decide +kernel
theorem d_L_law_35 : decode code 35 = .ok (.iaload, 1) := by decide +kernel
theorem d_L_law_36 : decode code 36 = .ok (.bipush 15, 2) := by decide +kernel
theorem d_L_law_38 : decode code 38 = .ok (.iand, 1) := by decide +kernel
theorem d_L_law_39 : decode code 39 = .ok (.tableswitch 420 0 8 #[49, 97, 157, 170, 238, 251, 264, 320, 395], 49) := by decide +kernel
theorem d_L_law_88 : decode code 88 = .ok (.aload_n 1, 1) := by decide +kernel
theorem d_L_law_89 : decode code 89 = .ok (.aload_n 0, 1) := by decide +kernel
theorem d_L_law_90 : decode code 90 = .ok (.iload 4, 2) := by decide +kernel
theorem d_L_law_92 : decode code 92 = .ok (.iconst 1, 1) := by decide +kernel
theorem d_L_law_93 : decode code 93 = .ok (.iadd, 1) := by decide +kernel
theorem d_L_law_94 : decode code 94 = .ok (.iaload, 1) := by decide +kernel
theorem d_L_law_95 : decode code 95 = .ok (.aload_n 0, 1) := by decide +kernel
theorem d_L_law_96 : decode code 96 = .ok (.iload 4, 2) := by decide +kernel
theorem d_L_law_98 : decode code 98 = .ok (.iconst 2, 1) := by decide +kernel
theorem d_L_law_99 : decode code 99 = .ok (.iadd, 1) := by decide +kernel
theorem d_L_law_100 : decode code 100 = .ok (.iaload, 1) := by decide +kernel
theorem d_L_law_101 : decode code 101 = .ok (.invokestatic 37, 3) := by decide +kernel
theorem d_L_law_104 : decode code 104 = .ok (.istore 5, 2) := by decide +kernel
theorem d_L_law_106 : decode code 106 = .ok (.aload_n 2, 1) := by decide +kernel
theorem d_L_law_107 : decode code 107 = .ok (.aload_n 0, 1) := by decide +kernel
theorem d_L_law_108 : decode code 108 = .ok (.iload 4, 2) := by decide +kernel
theorem d_L_law_110 : decode code 110 = .ok (.iconst 1, 1) := by decide +kernel
theorem d_L_law_111 : decode code 111 = .ok (.iadd, 1) := by decide +kernel
theorem d_L_law_112 : decode code 112 = .ok (.iaload, 1) := by decide +kernel
theorem d_L_law_113 : decode code 113 = .ok (.aload_n 0, 1) := by decide +kernel
theorem d_L_law_114 : decode code 114 = .ok (.iload 4, 2) := by decide +kernel
theorem d_L_law_116 : decode code 116 = .ok (.iconst 2, 1) := by decide +kernel
theorem d_L_law_117 : decode code 117 = .ok (.iadd, 1) := by decide +kernel
theorem d_L_law_118 : decode code 118 = .ok (.iaload, 1) := by decide +kernel
theorem d_L_law_119 : decode code 119 = .ok (.invokevirtual 42, 3) := by decide +kernel
theorem d_L_law_122 : decode code 122 = .ok (.aload_n 2, 1) := by decide +kernel
theorem d_L_law_123 : decode code 123 = .ok (.invokevirtual 43, 3) := by decide +kernel
theorem d_L_law_126 : decode code 126 = .ok (.iload 5, 2) := by decide +kernel
theorem d_L_law_128 : decode code 128 = .ok (.if_icmp .eq 5, 3) := by decide +kernel
theorem d_L_law_131 : decode code 131 = .ok (.iconst 0, 1) := by decide +kernel
theorem d_L_law_132 : decode code 132 = .ok (.ireturn, 1) := by decide +kernel
theorem d_L_law_133 : decode code 133 = .ok (.goto 326, 3) := by decide +kernel
theorem d_L_law_136 : decode code 136 = .ok (.aload_n 1, 1) := by decide +kernel
theorem d_L_law_137 : decode code 137 = .ok (.aload_n 0, 1) := by decide +kernel
theorem d_L_law_138 : decode code 138 = .ok (.iload 4, 2) := by decide +kernel
theorem d_L_law_140 : decode code 140 = .ok (.iconst 1, 1) := by decide +kernel
theorem d_L_law_141 : decode code 141 = .ok (.iadd, 1) := by decide +kernel
theorem d_L_law_142 : decode code 142 = .ok (.iaload, 1) := by decide +kernel
theorem d_L_law_143 : decode code 143 = .ok (.aload_n 0, 1) := by decide +kernel
theorem d_L_law_144 : decode code 144 = .ok (.iload 4, 2) := by decide +kernel
theorem d_L_law_146 : decode code 146 = .ok (.iconst 2, 1) := by decide +kernel
theorem d_L_law_147 : decode code 147 = .ok (.iadd, 1) := by decide +kernel
theorem d_L_law_148 : decode code 148 = .ok (.iaload, 1) := by decide +kernel
theorem d_L_law_149 : decode code 149 = .ok (.aload_n 0, 1) := by decide +kernel
theorem d_L_law_150 : decode code 150 = .ok (.iload 4, 2) := by decide +kernel
theorem d_L_law_152 : decode code 152 = .ok (.iconst 3, 1) := by decide +kernel
theorem d_L_law_153 : decode code 153 = .ok (.iadd, 1) := by decide +kernel
theorem d_L_law_154 : decode code 154 = .ok (.iaload, 1) := by decide +kernel
theorem d_L_law_155 : decode code 155 = .ok (.invokestatic 47, 3) := by decide +kernel
theorem d_L_law_158 : decode code 158 = .ok (.istore 5, 2) := by decide +kernel
theorem d_L_law_160 : decode code 160 = .ok (.aload_n 2, 1) := by decide +kernel
theorem d_L_law_161 : decode code 161 = .ok (.aload_n 0, 1) := by decide +kernel
theorem d_L_law_162 : decode code 162 = .ok (.iload 4, 2) := by decide +kernel
theorem d_L_law_164 : decode code 164 = .ok (.iconst 1, 1) := by decide +kernel
theorem d_L_law_165 : decode code 165 = .ok (.iadd, 1) := by decide +kernel
theorem d_L_law_166 : decode code 166 = .ok (.iaload, 1) := by decide +kernel
theorem d_L_law_167 : decode code 167 = .ok (.aload_n 0, 1) := by decide +kernel
theorem d_L_law_168 : decode code 168 = .ok (.iload 4, 2) := by decide +kernel
theorem d_L_law_170 : decode code 170 = .ok (.iconst 2, 1) := by decide +kernel
theorem d_L_law_171 : decode code 171 = .ok (.iadd, 1) := by decide +kernel
theorem d_L_law_172 : decode code 172 = .ok (.iaload, 1) := by decide +kernel
theorem d_L_law_173 : decode code 173 = .ok (.aload_n 0, 1) := by decide +kernel
theorem d_L_law_174 : decode code 174 = .ok (.iload 4, 2) := by decide +kernel
theorem d_L_law_176 : decode code 176 = .ok (.iconst 3, 1) := by decide +kernel
theorem d_L_law_177 : decode code 177 = .ok (.iadd, 1) := by decide +kernel
theorem d_L_law_178 : decode code 178 = .ok (.iaload, 1) := by decide +kernel
theorem d_L_law_179 : decode code 179 = .ok (.invokevirtual 50, 3) := by decide +kernel
theorem d_L_law_182 : decode code 182 = .ok (.aload_n 2, 1) := by decide +kernel
theorem d_L_law_183 : decode code 183 = .ok (.invokevirtual 43, 3) := by decide +kernel
theorem d_L_law_186 : decode code 186 = .ok (.iload 5, 2) := by decide +kernel
theorem d_L_law_188 : decode code 188 = .ok (.if_icmp .eq 5, 3) := by decide +kernel
theorem d_L_law_191 : decode code 191 = .ok (.iconst 0, 1) := by decide +kernel
theorem d_L_law_192 : decode code 192 = .ok (.ireturn, 1) := by decide +kernel
theorem d_L_law_193 : decode code 193 = .ok (.goto 266, 3) := by decide +kernel
theorem d_L_law_196 : decode code 196 = .ok (.aload_n 1, 1) := by decide +kernel
theorem d_L_law_197 : decode code 197 = .ok (.invokevirtual 51, 3) := by decide +kernel
theorem d_L_law_200 : decode code 200 = .ok (.aload_n 2, 1) := by decide +kernel
theorem d_L_law_201 : decode code 201 = .ok (.invokevirtual 54, 3) := by decide +kernel
theorem d_L_law_204 : decode code 204 = .ok (.if_icmp .eq 255, 3) := by decide +kernel
theorem d_L_law_207 : decode code 207 = .ok (.iconst 0, 1) := by decide +kernel
theorem d_L_law_208 : decode code 208 = .ok (.ireturn, 1) := by decide +kernel
theorem d_L_law_209 : decode code 209 = .ok (.aload_n 1, 1) := by decide +kernel
theorem d_L_law_210 : decode code 210 = .ok (.aload_n 0, 1) := by decide +kernel
theorem d_L_law_211 : decode code 211 = .ok (.iload 4, 2) := by decide +kernel
theorem d_L_law_213 : decode code 213 = .ok (.iconst 1, 1) := by decide +kernel
theorem d_L_law_214 : decode code 214 = .ok (.iadd, 1) := by decide +kernel
theorem d_L_law_215 : decode code 215 = .ok (.iaload, 1) := by decide +kernel
theorem d_L_law_216 : decode code 216 = .ok (.aload_n 0, 1) := by decide +kernel
theorem d_L_law_217 : decode code 217 = .ok (.iload 4, 2) := by decide +kernel
theorem d_L_law_219 : decode code 219 = .ok (.iconst 2, 1) := by decide +kernel
theorem d_L_law_220 : decode code 220 = .ok (.iadd, 1) := by decide +kernel
theorem d_L_law_221 : decode code 221 = .ok (.iaload, 1) := by decide +kernel
theorem d_L_law_222 : decode code 222 = .ok (.aload_n 3, 1) := by decide +kernel
theorem d_L_law_223 : decode code 223 = .ok (.invokestatic 55, 3) := by decide +kernel
theorem d_L_law_226 : decode code 226 = .ok (.istore 5, 2) := by decide +kernel
theorem d_L_law_228 : decode code 228 = .ok (.aload_n 2, 1) := by decide +kernel
theorem d_L_law_229 : decode code 229 = .ok (.aload_n 0, 1) := by decide +kernel
theorem d_L_law_230 : decode code 230 = .ok (.iload 4, 2) := by decide +kernel
theorem d_L_law_232 : decode code 232 = .ok (.iconst 1, 1) := by decide +kernel
theorem d_L_law_233 : decode code 233 = .ok (.iadd, 1) := by decide +kernel
theorem d_L_law_234 : decode code 234 = .ok (.iaload, 1) := by decide +kernel
theorem d_L_law_235 : decode code 235 = .ok (.aload_n 0, 1) := by decide +kernel
theorem d_L_law_236 : decode code 236 = .ok (.iload 4, 2) := by decide +kernel
theorem d_L_law_238 : decode code 238 = .ok (.iconst 2, 1) := by decide +kernel
theorem d_L_law_239 : decode code 239 = .ok (.iadd, 1) := by decide +kernel
theorem d_L_law_240 : decode code 240 = .ok (.iaload, 1) := by decide +kernel
theorem d_L_law_241 : decode code 241 = .ok (.invokevirtual 58, 3) := by decide +kernel
theorem d_L_law_244 : decode code 244 = .ok (.istore 6, 2) := by decide +kernel
theorem d_L_law_246 : decode code 246 = .ok (.aload_n 2, 1) := by decide +kernel
theorem d_L_law_247 : decode code 247 = .ok (.invokevirtual 43, 3) := by decide +kernel
theorem d_L_law_250 : decode code 250 = .ok (.iload 5, 2) := by decide +kernel
theorem d_L_law_252 : decode code 252 = .ok (.if_icmp .eq 5, 3) := by decide +kernel
theorem d_L_law_255 : decode code 255 = .ok (.iconst 0, 1) := by decide +kernel
theorem d_L_law_256 : decode code 256 = .ok (.ireturn, 1) := by decide +kernel
theorem d_L_law_257 : decode code 257 = .ok (.iload 5, 2) := by decide +kernel
theorem d_L_law_259 : decode code 259 = .ok (.ifCond .ne 15, 3) := by decide +kernel
theorem d_L_law_262 : decode code 262 = .ok (.aload_n 3, 1) := by decide +kernel
theorem d_L_law_263 : decode code 263 = .ok (.iconst 0, 1) := by decide +kernel
theorem d_L_law_264 : decode code 264 = .ok (.laload, 1) := by decide +kernel
theorem d_L_law_265 : decode code 265 = .ok (.iload 6, 2) := by decide +kernel
theorem d_L_law_267 : decode code 267 = .ok (.i2l, 1) := by decide +kernel
theorem d_L_law_268 : decode code 268 = .ok (.lcmp, 1) := by decide +kernel
theorem d_L_law_269 : decode code 269 = .ok (.ifCond .eq 5, 3) := by decide +kernel
theorem d_L_law_272 : decode code 272 = .ok (.iconst 0, 1) := by decide +kernel
theorem d_L_law_273 : decode code 273 = .ok (.ireturn, 1) := by decide +kernel
theorem d_L_law_274 : decode code 274 = .ok (.goto 185, 3) := by decide +kernel
theorem d_L_law_277 : decode code 277 = .ok (.aload_n 1, 1) := by decide +kernel
theorem d_L_law_278 : decode code 278 = .ok (.invokevirtual 59, 3) := by decide +kernel
theorem d_L_law_281 : decode code 281 = .ok (.aload_n 2, 1) := by decide +kernel
theorem d_L_law_282 : decode code 282 = .ok (.invokevirtual 62, 3) := by decide +kernel
theorem d_L_law_285 : decode code 285 = .ok (.if_icmp .eq 174, 3) := by decide +kernel
theorem d_L_law_288 : decode code 288 = .ok (.iconst 0, 1) := by decide +kernel
theorem d_L_law_289 : decode code 289 = .ok (.ireturn, 1) := by decide +kernel
theorem d_L_law_290 : decode code 290 = .ok (.aload_n 1, 1) := by decide +kernel
theorem d_L_law_291 : decode code 291 = .ok (.invokevirtual 63, 3) := by decide +kernel
theorem d_L_law_294 : decode code 294 = .ok (.aload_n 2, 1) := by decide +kernel
theorem d_L_law_295 : decode code 295 = .ok (.invokevirtual 66, 3) := by decide +kernel
theorem d_L_law_298 : decode code 298 = .ok (.if_icmp .eq 161, 3) := by decide +kernel
theorem d_L_law_301 : decode code 301 = .ok (.iconst 0, 1) := by decide +kernel
theorem d_L_law_302 : decode code 302 = .ok (.ireturn, 1) := by decide +kernel
theorem d_L_law_303 : decode code 303 = .ok (.aload_n 1, 1) := by decide +kernel
theorem d_L_law_304 : decode code 304 = .ok (.aload_n 0, 1) := by decide +kernel
theorem d_L_law_305 : decode code 305 = .ok (.iload 4, 2) := by decide +kernel
theorem d_L_law_307 : decode code 307 = .ok (.iconst 1, 1) := by decide +kernel
theorem d_L_law_308 : decode code 308 = .ok (.iadd, 1) := by decide +kernel
theorem d_L_law_309 : decode code 309 = .ok (.iaload, 1) := by decide +kernel
theorem d_L_law_310 : decode code 310 = .ok (.aload_n 3, 1) := by decide +kernel
theorem d_L_law_311 : decode code 311 = .ok (.invokestatic 67, 3) := by decide +kernel
theorem d_L_law_314 : decode code 314 = .ok (.istore 5, 2) := by decide +kernel
theorem d_L_law_316 : decode code 316 = .ok (.aload_n 2, 1) := by decide +kernel
theorem d_L_law_317 : decode code 317 = .ok (.aload_n 0, 1) := by decide +kernel
theorem d_L_law_318 : decode code 318 = .ok (.iload 4, 2) := by decide +kernel
theorem d_L_law_320 : decode code 320 = .ok (.iconst 1, 1) := by decide +kernel
theorem d_L_law_321 : decode code 321 = .ok (.iadd, 1) := by decide +kernel
theorem d_L_law_322 : decode code 322 = .ok (.iaload, 1) := by decide +kernel
theorem d_L_law_323 : decode code 323 = .ok (.invokevirtual 70, 3) := by decide +kernel
theorem d_L_law_326 : decode code 326 = .ok (.istore 6, 2) := by decide +kernel
theorem d_L_law_328 : decode code 328 = .ok (.aload_n 2, 1) := by decide +kernel
theorem d_L_law_329 : decode code 329 = .ok (.invokevirtual 43, 3) := by decide +kernel
theorem d_L_law_332 : decode code 332 = .ok (.iload 5, 2) := by decide +kernel
theorem d_L_law_334 : decode code 334 = .ok (.if_icmp .eq 5, 3) := by decide +kernel
theorem d_L_law_337 : decode code 337 = .ok (.iconst 0, 1) := by decide +kernel
theorem d_L_law_338 : decode code 338 = .ok (.ireturn, 1) := by decide +kernel
theorem d_L_law_339 : decode code 339 = .ok (.iload 5, 2) := by decide +kernel
theorem d_L_law_341 : decode code 341 = .ok (.ifCond .ne 15, 3) := by decide +kernel
theorem d_L_law_344 : decode code 344 = .ok (.aload_n 3, 1) := by decide +kernel
theorem d_L_law_345 : decode code 345 = .ok (.iconst 0, 1) := by decide +kernel
theorem d_L_law_346 : decode code 346 = .ok (.laload, 1) := by decide +kernel
theorem d_L_law_347 : decode code 347 = .ok (.iload 6, 2) := by decide +kernel
theorem d_L_law_349 : decode code 349 = .ok (.i2l, 1) := by decide +kernel
theorem d_L_law_350 : decode code 350 = .ok (.lcmp, 1) := by decide +kernel
theorem d_L_law_351 : decode code 351 = .ok (.ifCond .eq 5, 3) := by decide +kernel
theorem d_L_law_354 : decode code 354 = .ok (.iconst 0, 1) := by decide +kernel
theorem d_L_law_355 : decode code 355 = .ok (.ireturn, 1) := by decide +kernel
theorem d_L_law_356 : decode code 356 = .ok (.goto 103, 3) := by decide +kernel
theorem d_L_law_359 : decode code 359 = .ok (.aload_n 1, 1) := by decide +kernel
theorem d_L_law_360 : decode code 360 = .ok (.aload_n 0, 1) := by decide +kernel
theorem d_L_law_361 : decode code 361 = .ok (.iload 4, 2) := by decide +kernel
theorem d_L_law_363 : decode code 363 = .ok (.iconst 1, 1) := by decide +kernel
theorem d_L_law_364 : decode code 364 = .ok (.iadd, 1) := by decide +kernel
theorem d_L_law_365 : decode code 365 = .ok (.iaload, 1) := by decide +kernel
theorem d_L_law_366 : decode code 366 = .ok (.aload_n 0, 1) := by decide +kernel
theorem d_L_law_367 : decode code 367 = .ok (.iload 4, 2) := by decide +kernel
theorem d_L_law_369 : decode code 369 = .ok (.iconst 2, 1) := by decide +kernel
theorem d_L_law_370 : decode code 370 = .ok (.iadd, 1) := by decide +kernel
theorem d_L_law_371 : decode code 371 = .ok (.iaload, 1) := by decide +kernel
theorem d_L_law_372 : decode code 372 = .ok (.aload_n 3, 1) := by decide +kernel
theorem d_L_law_373 : decode code 373 = .ok (.invokestatic 71, 3) := by decide +kernel
theorem d_L_law_376 : decode code 376 = .ok (.istore 5, 2) := by decide +kernel
theorem d_L_law_378 : decode code 378 = .ok (.aload_n 2, 1) := by decide +kernel
theorem d_L_law_379 : decode code 379 = .ok (.aload_n 0, 1) := by decide +kernel
theorem d_L_law_380 : decode code 380 = .ok (.iload 4, 2) := by decide +kernel
theorem d_L_law_382 : decode code 382 = .ok (.iconst 1, 1) := by decide +kernel
theorem d_L_law_383 : decode code 383 = .ok (.iadd, 1) := by decide +kernel
theorem d_L_law_384 : decode code 384 = .ok (.iaload, 1) := by decide +kernel
theorem d_L_law_385 : decode code 385 = .ok (.aload_n 0, 1) := by decide +kernel
theorem d_L_law_386 : decode code 386 = .ok (.iload 4, 2) := by decide +kernel
theorem d_L_law_388 : decode code 388 = .ok (.iconst 2, 1) := by decide +kernel
theorem d_L_law_389 : decode code 389 = .ok (.iadd, 1) := by decide +kernel
theorem d_L_law_390 : decode code 390 = .ok (.iaload, 1) := by decide +kernel
theorem d_L_law_391 : decode code 391 = .ok (.invokevirtual 73, 3) := by decide +kernel
theorem d_L_law_394 : decode code 394 = .ok (.istore 6, 2) := by decide +kernel
theorem d_L_law_396 : decode code 396 = .ok (.aload_n 2, 1) := by decide +kernel
theorem d_L_law_397 : decode code 397 = .ok (.invokevirtual 43, 3) := by decide +kernel
theorem d_L_law_400 : decode code 400 = .ok (.iload 5, 2) := by decide +kernel
theorem d_L_law_402 : decode code 402 = .ok (.if_icmp .eq 5, 3) := by decide +kernel
theorem d_L_law_405 : decode code 405 = .ok (.iconst 0, 1) := by decide +kernel
theorem d_L_law_406 : decode code 406 = .ok (.ireturn, 1) := by decide +kernel
theorem d_L_law_407 : decode code 407 = .ok (.iload 5, 2) := by decide +kernel
theorem d_L_law_409 : decode code 409 = .ok (.ifCond .ne 22, 3) := by decide +kernel
theorem d_L_law_412 : decode code 412 = .ok (.aload_n 3, 1) := by decide +kernel
theorem d_L_law_413 : decode code 413 = .ok (.iconst 0, 1) := by decide +kernel
theorem d_L_law_414 : decode code 414 = .ok (.laload, 1) := by decide +kernel
theorem d_L_law_415 : decode code 415 = .ok (.iload 6, 2) := by decide +kernel
theorem d_L_law_417 : decode code 417 = .ok (.ifCond .eq 7, 3) := by decide +kernel
theorem d_L_law_420 : decode code 420 = .ok (.lconst 1, 1) := by decide +kernel
theorem d_L_law_421 : decode code 421 = .ok (.goto 4, 3) := by decide +kernel
theorem d_L_law_424 : decode code 424 = .ok (.lconst 0, 1) := by decide +kernel
theorem d_L_law_425 : decode code 425 = .ok (.lcmp, 1) := by decide +kernel
theorem d_L_law_426 : decode code 426 = .ok (.ifCond .eq 5, 3) := by decide +kernel
theorem d_L_law_429 : decode code 429 = .ok (.iconst 0, 1) := by decide +kernel
theorem d_L_law_430 : decode code 430 = .ok (.ireturn, 1) := by decide +kernel
theorem d_L_law_431 : decode code 431 = .ok (.goto 28, 3) := by decide +kernel
theorem d_L_law_434 : decode code 434 = .ok (.aload_n 1, 1) := by decide +kernel
theorem d_L_law_435 : decode code 435 = .ok (.aload_n 0, 1) := by decide +kernel
theorem d_L_law_436 : decode code 436 = .ok (.iload 4, 2) := by decide +kernel
theorem d_L_law_438 : decode code 438 = .ok (.iconst 1, 1) := by decide +kernel
theorem d_L_law_439 : decode code 439 = .ok (.iadd, 1) := by decide +kernel
theorem d_L_law_440 : decode code 440 = .ok (.iaload, 1) := by decide +kernel
theorem d_L_law_441 : decode code 441 = .ok (.invokevirtual 74, 3) := by decide +kernel
theorem d_L_law_444 : decode code 444 = .ok (.aload_n 2, 1) := by decide +kernel
theorem d_L_law_445 : decode code 445 = .ok (.aload_n 0, 1) := by decide +kernel
theorem d_L_law_446 : decode code 446 = .ok (.iload 4, 2) := by decide +kernel
theorem d_L_law_448 : decode code 448 = .ok (.iconst 1, 1) := by decide +kernel
theorem d_L_law_449 : decode code 449 = .ok (.iadd, 1) := by decide +kernel
theorem d_L_law_450 : decode code 450 = .ok (.iaload, 1) := by decide +kernel
theorem d_L_law_451 : decode code 451 = .ok (.invokevirtual 77, 3) := by decide +kernel
theorem d_L_law_454 : decode code 454 = .ok (.if_icmp .eq 5, 3) := by decide +kernel
theorem d_L_law_457 : decode code 457 = .ok (.iconst 0, 1) := by decide +kernel
theorem d_L_law_458 : decode code 458 = .ok (.ireturn, 1) := by decide +kernel
theorem d_L_law_459 : decode code 459 = .ok (.iinc 4 4, 3) := by decide +kernel
theorem d_L_law_462 : decode code 462 = .ok (.goto (-439), 3) := by decide +kernel
theorem d_L_law_465 : decode code 465 = .ok (.iconst 1, 1) := by decide +kernel
theorem d_L_law_466 : decode code 466 = .ok (.ireturn, 1) := by decide +kernel
abbrev lw_w (ad : Nat → Nat) (ca : Nat → ClassId) (nn mo : Nat) (ga se : Int32) (one zer : Nat → Int32) (tb : TB) (sb : SB) (on1 any1 : Nat → Int32) (r : RT) (thr : Int32) (ou : Nat → Int64) : va_W := [(ad 0, eH ad (nI nn) (nI mo) ga se), (ad 2, eT ad (nI tb.1) tb.2.2.2.2.2.2.1 tb.2.2.2.2.2.2.2.1), (ad 3, eP ad), (ad 4, eI 2 (ca 4) one), (ad 5, eI 2 (ca 5) zer), (ad 9, eI 81 (ca 9) tb.2.1), (ad 10, eI 81 (ca 10) tb.2.2.1), (ad 11, eI 81 (ca 11) tb.2.2.2.1), (ad 12, eI 81 (ca 12) tb.2.2.2.2.1), (ad 13, eL 81 (ca 13) tb.2.2.2.2.2.1), (ad 14, eI 81 (ca 14) tb.2.2.2.2.2.2.2.2), (ad 15, eI 81 (ca 15) prI), (ad 16, eI 81 (ca 16) prS), (ad 1, eS ad (nI sb.2.1) sb.2.2.1 sb.2.2.2.2.2.1 sb.2.2.2.2.2.2), (ad 6, eI 81 (ca 6) sb.1), (ad 7, eI 81 (ca 7) sb.2.2.2.1), (ad 8, eL 32 (ca 8) sb.2.2.2.2.1), (ad 20, eM ad thr (nI nn) (nI mo) (nI r.2.1) r.1 (nI r.2.2.2.2.2.2.2.2.1) (nI r.2.2.2.2.2.2.2.2.2.1.2.2.2.2.2.2) (nI r.2.2.2.2.2.2.2.2.2.2.2.1) r.2.2.2.2.2.2.2.2.2.2.2.2.1 r.2.2.2.2.2.2.2.2.2.2.2.2.2.1 r.2.2.2.2.2.2.2.2.2.2.2.2.2.2.1 r.2.2.2.2.2.2.2.2.2.2.2.2.2.2.2), (ad 21, eI 2 (ca 21) on1), (ad 22, eI 2 (ca 22) any1), (ad 23, eI 81 (ca 23) r.2.2.1), (ad 24, eI 81 (ca 24) r.2.2.2.1), (ad 25, eI 81 (ca 25) r.2.2.2.2.1), (ad 26, eI 81 (ca 26) r.2.2.2.2.2.1), (ad 27, eI 81 (ca 27) r.2.2.2.2.2.2.1), (ad 28, eI 81 (ca 28) r.2.2.2.2.2.2.2.1), (ad 29, eZ 65536 (ca 29) r.2.2.2.2.2.2.2.2.2.1.1), (ad 30, eI 65536 (ca 30) r.2.2.2.2.2.2.2.2.2.1.2.1), (ad 31, eI 65536 (ca 31) r.2.2.2.2.2.2.2.2.2.1.2.2.1), (ad 32, eI 65536 (ca 32) r.2.2.2.2.2.2.2.2.2.1.2.2.2.1), (ad 33, eL 65536 (ca 33) r.2.2.2.2.2.2.2.2.2.1.2.2.2.2.1), (ad 34, eL 65536 (ca 34) r.2.2.2.2.2.2.2.2.2.1.2.2.2.2.2.1), (ad 35, eI 40 (ca 35) r.2.2.2.2.2.2.2.2.2.2.1.1), (ad 36, eI 40 (ca 36) r.2.2.2.2.2.2.2.2.2.2.1.2.1), (ad 37, eI 40 (ca 37) r.2.2.2.2.2.2.2.2.2.2.1.2.2.1), (ad 38, eI 40 (ca 38) r.2.2.2.2.2.2.2.2.2.2.1.2.2.2.1), (ad 39, eI 40 (ca 39) r.2.2.2.2.2.2.2.2.2.2.1.2.2.2.2.1), (ad 40, eL 40 (ca 40) r.2.2.2.2.2.2.2.2.2.2.1.2.2.2.2.2.1), (ad 41, eL 40 (ca 41) r.2.2.2.2.2.2.2.2.2.2.1.2.2.2.2.2.2), (ad 50, eL 1 (ca 50) ou)]
abbrev lw_t (ca : Nat → ClassId) : List (ClassId × FieldType) := [(ca 4, .int), (ca 5, .int), (ca 9, .int), (ca 10, .int), (ca 11, .int), (ca 12, .int), (ca 13, .long), (ca 14, .int), (ca 15, .int), (ca 16, .int), (ca 6, .int), (ca 7, .int), (ca 8, .long), (ca 21, .int), (ca 22, .int), (ca 23, .int), (ca 24, .int), (ca 25, .int), (ca 26, .int), (ca 27, .int), (ca 28, .int), (ca 29, .boolean), (ca 30, .int), (ca 31, .int), (ca 32, .int), (ca 33, .long), (ca 34, .long), (ca 35, .int), (ca 36, .int), (ca 37, .int), (ca 38, .int), (ca 39, .int), (ca 40, .long), (ca 41, .long), (ca 50, .long)]
abbrev lw_A (s : State) : Nat → Prop := fun q => s.heap.size ≤ q
/-- what holds all the way -/
def lw_C (p : Program) (l : Launch) (s : State) (m : MethodId) (c : Code) (b L : Nat) (xs : Nat → Int32) (dC : Nat → ClassId) (dI : Nat → Nat → Nat) (ca : Nat → ClassId) (tP tI : Nat) (sa : Nat → Nat) : Prop :=
  p.tables.exec = Jvm.exec ∧ c.code = code ∧ c.maxLocals = 7 ∧ s.vm.findClass R_L = some m.cls ∧ (∀ w ∈ Cond.tt :: LW, w.before #[Value.ref b] s = true) ∧ va_X b L xs s s.heap ∧ b < s.heap.size ∧ va_K (dC, dI) vC (lw_t ca) s ∧ st_X tP tI (lw_A s) s s.heap ∧ ol_X (lw_A s) s s.heap ∧ ss_X sa s ∧ l.stackTraces = false ∧ L ≤ 2048
/-- where a call comes to: the next one begins from there -/
def lw_K (p : Program) (l : Launch) (e : Env) (s : State) (m : MethodId) (below : List Frame) (meth : Method) (c : Code) (b : Nat) (dC : Nat → ClassId) (dI : Nat → Nat → Nat) (ad : Nat → Nat) (ca : Nat → ClassId) (cells slots iv : Nat) : Prop :=
  ∀ (nn mo : Nat) (ga se : Int32) (one zer : Nat → Int32) (tb : TB) (sb : SB) (on1 any1 : Nat → Int32) (r : RT) (thr : Int32) (ou : Nat → Int64), Rel nn mo ga se one zer tb sb on1 any1 r → ∀ (H : Heap) (locs : List Loc) (cells1 slots1 : Nat) (ls : Array Slot), va_P (dC, dI) vC (lw_w ad ca nn mo ga se one zer tb sb on1 any1 r thr ou) H → va_D (lw_A s) (lw_w ad ca nn mo ga se one zer tb sb on1 any1 r thr ou) → va_S (lw_A s) s.heap H locs → cells1 ≤ cells + 1 → slots1 ≤ slots + 6 → lv_has ls 7 [(4, .int (nI (4 * iv))), (3, .ref (ad 50)), (2, .ref (ad 20)), (1, .ref (ad 0)), (0, .ref b)] → W p l e room_1 s m #[Value.ref b] below meth c H locs cells1 slots1 (lw_Z below #[Value.ref b] s) (F0 m 459 ls [])
section SLD
variable {p : Program} {l : Launch} {e : Env} {R : Room} {s : State} {m : MethodId} {args : Array Value} {below : List Frame} {meth : Method} {c : Code} {H H0 : Heap} {locs : List Loc} {cells slots : Nat} {Q : State → Prop} {cc : ByteArray} {pc : Nat} {ls : Array Slot} {rest : List Value} {A : Nat → Prop}
theorem k_sld (hexec : p.tables.exec = Jvm.exec) (hb : c.code = cc) {b L : Nat} {xs : Nat → Int32} (hX : va_X b L xs s H0) (hbl : b < H0.size) (hbA : ¬ A b) (hS : va_S A H0 H locs) {i v : Int32} {k : Nat} (ei : i = nI k) (hk : k < L) (hL : L < 2 ^ 31) (hv : xs k = v) (hdg : decode cc pc = .ok (.iaload, 1))
    (kk : W p l e R s m args below meth c H locs cells slots Q (F0 m (pc + 1) ls (.int v :: rest))) : W p l e R s m args below meth c H locs cells slots Q (F0 m pc ls (.int i :: .ref b :: rest)) := by
  subst ei
  refine va_sld hexec hb hX hbl hbA hS (vp_in_nI hk hL) hdg ?_
  rw [nI_clamp (by omega), hv]
  exact kk
end SLD
theorem val_l0 {E : Bool} {v : Int32} (h : v = if E = true then 1 else 0) (hv : v = 0) : (if E = true then (1 : Int64) else 0) = 0 := by
  cases E with
  | false => rfl
  | true => rw [h] at hv; exact absurd hv (by decide)
theorem val_l1 {E : Bool} {v : Int32} (h : v = if E = true then 1 else 0) (hv : ¬ v = 0) : (if E = true then (1 : Int64) else 0) = 1 := by
  cases E with
  | false => exact absurd h hv
  | true => rfl
