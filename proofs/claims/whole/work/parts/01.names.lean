-- ===== PART A: goes FIRST, ahead of the names: the tables' words, and 'selects' of the private methods out of them =====
/-- a private method of a class that the tables say can be made, by its rows of tables_1 -/
def lw_okq (q : MethodName × Nat) : Prop := (q.1.cls ≠ "java/lang/invoke/MethodHandle" ∧ q.1.cls ≠ "java/lang/invoke/VarHandle") ∧ Cond.instantiable q.1.cls q.2 ∈ tables_1 ∧ Cond.privateMethod q.1 ∈ tables_1 ∧ Cond.instanceMethod q.1 ∈ tables_1
theorem lw_p0 : lw_okq (⟨"CoverHouse$Products", "describe", "(I)V"⟩, 2) := ⟨⟨by decide +kernel, by decide +kernel⟩, List.mem_of_getElem? (i := 34) (by decide +kernel), List.mem_of_getElem? (i := 40) (by decide +kernel), List.mem_of_getElem? (i := 41) (by decide +kernel)⟩
theorem lw_p1 : lw_okq (⟨"CoverHouse", "restart", "(II)V"⟩, 8) := ⟨⟨by decide +kernel, by decide +kernel⟩, List.mem_of_getElem? (i := 14) (by decide +kernel), List.mem_of_getElem? (i := 129) (by decide +kernel), List.mem_of_getElem? (i := 130) (by decide +kernel)⟩
theorem lw_p2 : lw_okq (⟨"CoverHouse", "allInputs", "()I"⟩, 8) := ⟨⟨by decide +kernel, by decide +kernel⟩, List.mem_of_getElem? (i := 14) (by decide +kernel), List.mem_of_getElem? (i := 133) (by decide +kernel), List.mem_of_getElem? (i := 134) (by decide +kernel)⟩
theorem lw_p3 : lw_okq (⟨"CoverHouse", "forget", "()V"⟩, 8) := ⟨⟨by decide +kernel, by decide +kernel⟩, List.mem_of_getElem? (i := 14) (by decide +kernel), List.mem_of_getElem? (i := 137) (by decide +kernel), List.mem_of_getElem? (i := 138) (by decide +kernel)⟩
theorem lw_p4 : lw_okq (⟨"CoverHouse", "gather", "()V"⟩, 8) := ⟨⟨by decide +kernel, by decide +kernel⟩, List.mem_of_getElem? (i := 14) (by decide +kernel), List.mem_of_getElem? (i := 170) (by decide +kernel), List.mem_of_getElem? (i := 171) (by decide +kernel)⟩
theorem lw_p5 : lw_okq (⟨"CoverHouse$Candidates", "isCandidate", "(I)Z"⟩, 10) := ⟨⟨by decide +kernel, by decide +kernel⟩, List.mem_of_getElem? (i := 28) (by decide +kernel), List.mem_of_getElem? (i := 189) (by decide +kernel), List.mem_of_getElem? (i := 190) (by decide +kernel)⟩
theorem lw_p6 : lw_okq (⟨"CoverHouse$Candidates", "append", "(I[I)V"⟩, 10) := ⟨⟨by decide +kernel, by decide +kernel⟩, List.mem_of_getElem? (i := 28) (by decide +kernel), List.mem_of_getElem? (i := 196) (by decide +kernel), List.mem_of_getElem? (i := 197) (by decide +kernel)⟩
theorem lw_p7 : lw_okq (⟨"CoverHouse$Candidates", "findLonelyPlaces", "()V"⟩, 10) := ⟨⟨by decide +kernel, by decide +kernel⟩, List.mem_of_getElem? (i := 28) (by decide +kernel), List.mem_of_getElem? (i := 200) (by decide +kernel), List.mem_of_getElem? (i := 201) (by decide +kernel)⟩
theorem lw_p8 : lw_okq (⟨"CoverHouse", "solve", "()V"⟩, 8) := ⟨⟨by decide +kernel, by decide +kernel⟩, List.mem_of_getElem? (i := 14) (by decide +kernel), List.mem_of_getElem? (i := 209) (by decide +kernel), List.mem_of_getElem? (i := 210) (by decide +kernel)⟩
theorem lw_p9 : lw_okq (⟨"CoverHouse$Search", "serversOf", "(I)J"⟩, 8) := ⟨⟨by decide +kernel, by decide +kernel⟩, List.mem_of_getElem? (i := 22) (by decide +kernel), List.mem_of_getElem? (i := 217) (by decide +kernel), List.mem_of_getElem? (i := 218) (by decide +kernel)⟩
theorem lw_p10 : lw_okq (⟨"CoverHouse$Search", "extend", "(IJJIJ)V"⟩, 8) := ⟨⟨by decide +kernel, by decide +kernel⟩, List.mem_of_getElem? (i := 22) (by decide +kernel), List.mem_of_getElem? (i := 222) (by decide +kernel), List.mem_of_getElem? (i := 223) (by decide +kernel)⟩
theorem lw_p11 : lw_okq (⟨"CoverHouse$Search", "keepIfBetter", "(IJ)V"⟩, 8) := ⟨⟨by decide +kernel, by decide +kernel⟩, List.mem_of_getElem? (i := 22) (by decide +kernel), List.mem_of_getElem? (i := 226) (by decide +kernel), List.mem_of_getElem? (i := 227) (by decide +kernel)⟩
theorem lw_p12 : lw_okq (⟨"CoverHouse$Search", "isBetterThanBest", "(IJ)Z"⟩, 8) := ⟨⟨by decide +kernel, by decide +kernel⟩, List.mem_of_getElem? (i := 22) (by decide +kernel), List.mem_of_getElem? (i := 230) (by decide +kernel), List.mem_of_getElem? (i := 231) (by decide +kernel)⟩
theorem lw_p13 : lw_okq (⟨"CoverHouse$Search", "withoutDominated", "(JJ)J"⟩, 8) := ⟨⟨by decide +kernel, by decide +kernel⟩, List.mem_of_getElem? (i := 22) (by decide +kernel), List.mem_of_getElem? (i := 234) (by decide +kernel), List.mem_of_getElem? (i := 235) (by decide +kernel)⟩
theorem lw_p14 : lw_okq (⟨"CoverHouse$Search", "isDominated", "(IJJ)Z"⟩, 8) := ⟨⟨by decide +kernel, by decide +kernel⟩, List.mem_of_getElem? (i := 22) (by decide +kernel), List.mem_of_getElem? (i := 238) (by decide +kernel), List.mem_of_getElem? (i := 239) (by decide +kernel)⟩
theorem lw_p15 : lw_okq (⟨"CoverHouse$Search", "weightToCome", "(JJ)I"⟩, 8) := ⟨⟨by decide +kernel, by decide +kernel⟩, List.mem_of_getElem? (i := 22) (by decide +kernel), List.mem_of_getElem? (i := 243) (by decide +kernel), List.mem_of_getElem? (i := 244) (by decide +kernel)⟩
def lw_privs_1 : List (MethodName × Nat) := [(⟨"CoverHouse$Products", "describe", "(I)V"⟩, 2), (⟨"CoverHouse", "restart", "(II)V"⟩, 8), (⟨"CoverHouse", "allInputs", "()I"⟩, 8), (⟨"CoverHouse", "forget", "()V"⟩, 8), (⟨"CoverHouse", "gather", "()V"⟩, 8), (⟨"CoverHouse$Candidates", "isCandidate", "(I)Z"⟩, 10), (⟨"CoverHouse$Candidates", "append", "(I[I)V"⟩, 10), (⟨"CoverHouse$Candidates", "findLonelyPlaces", "()V"⟩, 10), (⟨"CoverHouse", "solve", "()V"⟩, 8), (⟨"CoverHouse$Search", "serversOf", "(I)J"⟩, 8), (⟨"CoverHouse$Search", "extend", "(IJJIJ)V"⟩, 8), (⟨"CoverHouse$Search", "keepIfBetter", "(IJ)V"⟩, 8), (⟨"CoverHouse$Search", "isBetterThanBest", "(IJ)Z"⟩, 8), (⟨"CoverHouse$Search", "withoutDominated", "(JJ)J"⟩, 8), (⟨"CoverHouse$Search", "isDominated", "(IJJ)Z"⟩, 8), (⟨"CoverHouse$Search", "weightToCome", "(JJ)I"⟩, 8)]
theorem lw_r1 : ∀ q ∈ lw_privs_1, lw_okq q := List.forall_mem_cons.mpr ⟨lw_p0, List.forall_mem_cons.mpr ⟨lw_p1, List.forall_mem_cons.mpr ⟨lw_p2, List.forall_mem_cons.mpr ⟨lw_p3, List.forall_mem_cons.mpr ⟨lw_p4, List.forall_mem_cons.mpr ⟨lw_p5, List.forall_mem_cons.mpr ⟨lw_p6, List.forall_mem_cons.mpr ⟨lw_p7, List.forall_mem_cons.mpr ⟨lw_p8, List.forall_mem_cons.mpr ⟨lw_p9, List.forall_mem_cons.mpr ⟨lw_p10, List.forall_mem_cons.mpr ⟨lw_p11, List.forall_mem_cons.mpr ⟨lw_p12, List.forall_mem_cons.mpr ⟨lw_p13, List.forall_mem_cons.mpr ⟨lw_p14, List.forall_mem_cons.mpr ⟨lw_p15, fun _ h => absurd h List.not_mem_nil⟩⟩⟩⟩⟩⟩⟩⟩⟩⟩⟩⟩⟩⟩⟩⟩
theorem lw_p16 : lw_okq (⟨"CoverHouse$Search", "lightestOf", "(J)I"⟩, 8) := ⟨⟨by decide +kernel, by decide +kernel⟩, List.mem_of_getElem? (i := 22) (by decide +kernel), List.mem_of_getElem? (i := 247) (by decide +kernel), List.mem_of_getElem? (i := 248) (by decide +kernel)⟩
theorem lw_p17 : lw_okq (⟨"CoverHouse$Search", "fewestServers", "(JJ)J"⟩, 8) := ⟨⟨by decide +kernel, by decide +kernel⟩, List.mem_of_getElem? (i := 22) (by decide +kernel), List.mem_of_getElem? (i := 254) (by decide +kernel), List.mem_of_getElem? (i := 255) (by decide +kernel)⟩
theorem lw_p18 : lw_okq (⟨"CoverHouse$Search", "listBest", "()V"⟩, 8) := ⟨⟨by decide +kernel, by decide +kernel⟩, List.mem_of_getElem? (i := 22) (by decide +kernel), List.mem_of_getElem? (i := 264) (by decide +kernel), List.mem_of_getElem? (i := 265) (by decide +kernel)⟩
theorem lw_p19 : lw_okq (⟨"java/lang/Throwable", "fillInStackTrace", "(I)Ljava/lang/Throwable;"⟩, 6) := ⟨⟨by decide +kernel, by decide +kernel⟩, List.mem_of_getElem? (i := 330) (by decide +kernel), List.mem_of_getElem? (i := 328) (by decide +kernel), List.mem_of_getElem? (i := 329) (by decide +kernel)⟩
theorem lw_p20 : lw_okq (⟨"CoverHouse", "isOutput", "(I)Z"⟩, 8) := ⟨⟨by decide +kernel, by decide +kernel⟩, List.mem_of_getElem? (i := 14) (by decide +kernel), List.mem_of_getElem? (i := 369) (by decide +kernel), List.mem_of_getElem? (i := 370) (by decide +kernel)⟩
theorem lw_p21 : lw_okq (⟨"CoverHouseModel", "refuse", "(ZZ)Z"⟩, 33) := ⟨⟨by decide +kernel, by decide +kernel⟩, List.mem_of_getElem? (i := 424) (by decide +kernel), List.mem_of_getElem? (i := 543) (by decide +kernel), List.mem_of_getElem? (i := 544) (by decide +kernel)⟩
theorem lw_p22 : lw_okq (⟨"CoverHouseModel", "all", "()I"⟩, 33) := ⟨⟨by decide +kernel, by decide +kernel⟩, List.mem_of_getElem? (i := 424) (by decide +kernel), List.mem_of_getElem? (i := 551) (by decide +kernel), List.mem_of_getElem? (i := 552) (by decide +kernel)⟩
theorem lw_p23 : lw_okq (⟨"CoverHouseModel", "find", "()V"⟩, 33) := ⟨⟨by decide +kernel, by decide +kernel⟩, List.mem_of_getElem? (i := 424) (by decide +kernel), List.mem_of_getElem? (i := 559) (by decide +kernel), List.mem_of_getElem? (i := 560) (by decide +kernel)⟩
theorem lw_p24 : lw_okq (⟨"CoverHouseModel", "productsOf", "()I"⟩, 33) := ⟨⟨by decide +kernel, by decide +kernel⟩, List.mem_of_getElem? (i := 424) (by decide +kernel), List.mem_of_getElem? (i := 563) (by decide +kernel), List.mem_of_getElem? (i := 564) (by decide +kernel)⟩
theorem lw_p25 : lw_okq (⟨"CoverHouseModel", "isCandidate", "(I)Z"⟩, 33) := ⟨⟨by decide +kernel, by decide +kernel⟩, List.mem_of_getElem? (i := 424) (by decide +kernel), List.mem_of_getElem? (i := 567) (by decide +kernel), List.mem_of_getElem? (i := 568) (by decide +kernel)⟩
theorem lw_p26 : lw_okq (⟨"CoverHouseModel", "outputsOf", "(I)I"⟩, 33) := ⟨⟨by decide +kernel, by decide +kernel⟩, List.mem_of_getElem? (i := 424) (by decide +kernel), List.mem_of_getElem? (i := 571) (by decide +kernel), List.mem_of_getElem? (i := 572) (by decide +kernel)⟩
theorem lw_p27 : lw_okq (⟨"CoverHouseModel", "onesOf", "(I)I"⟩, 33) := ⟨⟨by decide +kernel, by decide +kernel⟩, List.mem_of_getElem? (i := 424) (by decide +kernel), List.mem_of_getElem? (i := 575) (by decide +kernel), List.mem_of_getElem? (i := 576) (by decide +kernel)⟩
theorem lw_p28 : lw_okq (⟨"CoverHouseModel", "partsOf", "(I)I"⟩, 33) := ⟨⟨by decide +kernel, by decide +kernel⟩, List.mem_of_getElem? (i := 424) (by decide +kernel), List.mem_of_getElem? (i := 582) (by decide +kernel), List.mem_of_getElem? (i := 583) (by decide +kernel)⟩
theorem lw_p29 : lw_okq (⟨"CoverHouseModel", "solve", "()V"⟩, 33) := ⟨⟨by decide +kernel, by decide +kernel⟩, List.mem_of_getElem? (i := 424) (by decide +kernel), List.mem_of_getElem? (i := 586) (by decide +kernel), List.mem_of_getElem? (i := 587) (by decide +kernel)⟩
theorem lw_p30 : lw_okq (⟨"CoverHouseModel", "isHopeless", "(II)Z"⟩, 33) := ⟨⟨by decide +kernel, by decide +kernel⟩, List.mem_of_getElem? (i := 424) (by decide +kernel), List.mem_of_getElem? (i := 590) (by decide +kernel), List.mem_of_getElem? (i := 591) (by decide +kernel)⟩
theorem lw_p31 : lw_okq (⟨"CoverHouseModel", "wait", "(II)V"⟩, 33) := ⟨⟨by decide +kernel, by decide +kernel⟩, List.mem_of_getElem? (i := 424) (by decide +kernel), List.mem_of_getElem? (i := 597) (by decide +kernel), List.mem_of_getElem? (i := 598) (by decide +kernel)⟩
def lw_privs_2 : List (MethodName × Nat) := [(⟨"CoverHouse$Search", "lightestOf", "(J)I"⟩, 8), (⟨"CoverHouse$Search", "fewestServers", "(JJ)J"⟩, 8), (⟨"CoverHouse$Search", "listBest", "()V"⟩, 8), (⟨"java/lang/Throwable", "fillInStackTrace", "(I)Ljava/lang/Throwable;"⟩, 6), (⟨"CoverHouse", "isOutput", "(I)Z"⟩, 8), (⟨"CoverHouseModel", "refuse", "(ZZ)Z"⟩, 33), (⟨"CoverHouseModel", "all", "()I"⟩, 33), (⟨"CoverHouseModel", "find", "()V"⟩, 33), (⟨"CoverHouseModel", "productsOf", "()I"⟩, 33), (⟨"CoverHouseModel", "isCandidate", "(I)Z"⟩, 33), (⟨"CoverHouseModel", "outputsOf", "(I)I"⟩, 33), (⟨"CoverHouseModel", "onesOf", "(I)I"⟩, 33), (⟨"CoverHouseModel", "partsOf", "(I)I"⟩, 33), (⟨"CoverHouseModel", "solve", "()V"⟩, 33), (⟨"CoverHouseModel", "isHopeless", "(II)Z"⟩, 33), (⟨"CoverHouseModel", "wait", "(II)V"⟩, 33)]
theorem lw_r2 : ∀ q ∈ lw_privs_2, lw_okq q := List.forall_mem_cons.mpr ⟨lw_p16, List.forall_mem_cons.mpr ⟨lw_p17, List.forall_mem_cons.mpr ⟨lw_p18, List.forall_mem_cons.mpr ⟨lw_p19, List.forall_mem_cons.mpr ⟨lw_p20, List.forall_mem_cons.mpr ⟨lw_p21, List.forall_mem_cons.mpr ⟨lw_p22, List.forall_mem_cons.mpr ⟨lw_p23, List.forall_mem_cons.mpr ⟨lw_p24, List.forall_mem_cons.mpr ⟨lw_p25, List.forall_mem_cons.mpr ⟨lw_p26, List.forall_mem_cons.mpr ⟨lw_p27, List.forall_mem_cons.mpr ⟨lw_p28, List.forall_mem_cons.mpr ⟨lw_p29, List.forall_mem_cons.mpr ⟨lw_p30, List.forall_mem_cons.mpr ⟨lw_p31, fun _ h => absurd h List.not_mem_nil⟩⟩⟩⟩⟩⟩⟩⟩⟩⟩⟩⟩⟩⟩⟩⟩
theorem lw_p32 : lw_okq (⟨"CoverHouseModel", "pointOf", "(I)I"⟩, 33) := ⟨⟨by decide +kernel, by decide +kernel⟩, List.mem_of_getElem? (i := 424) (by decide +kernel), List.mem_of_getElem? (i := 601) (by decide +kernel), List.mem_of_getElem? (i := 602) (by decide +kernel)⟩
theorem lw_p33 : lw_okq (⟨"CoverHouseModel", "work", "()V"⟩, 33) := ⟨⟨by decide +kernel, by decide +kernel⟩, List.mem_of_getElem? (i := 424) (by decide +kernel), List.mem_of_getElem? (i := 605) (by decide +kernel), List.mem_of_getElem? (i := 606) (by decide +kernel)⟩
theorem lw_p34 : lw_okq (⟨"CoverHouseModel", "better", "(IIJJ)V"⟩, 33) := ⟨⟨by decide +kernel, by decide +kernel⟩, List.mem_of_getElem? (i := 424) (by decide +kernel), List.mem_of_getElem? (i := 609) (by decide +kernel), List.mem_of_getElem? (i := 610) (by decide +kernel)⟩
theorem lw_p35 : lw_okq (⟨"CoverHouseModel", "keep", "(IIIJJ)V"⟩, 33) := ⟨⟨by decide +kernel, by decide +kernel⟩, List.mem_of_getElem? (i := 424) (by decide +kernel), List.mem_of_getElem? (i := 616) (by decide +kernel), List.mem_of_getElem? (i := 617) (by decide +kernel)⟩
theorem lw_p36 : lw_okq (⟨"CoverHouseModel", "placeOf", "(II)I"⟩, 33) := ⟨⟨by decide +kernel, by decide +kernel⟩, List.mem_of_getElem? (i := 424) (by decide +kernel), List.mem_of_getElem? (i := 621) (by decide +kernel), List.mem_of_getElem? (i := 622) (by decide +kernel)⟩
theorem lw_p37 : lw_okq (⟨"CoverHouseModel", "isNeeded", "(I)Z"⟩, 33) := ⟨⟨by decide +kernel, by decide +kernel⟩, List.mem_of_getElem? (i := 424) (by decide +kernel), List.mem_of_getElem? (i := 631) (by decide +kernel), List.mem_of_getElem? (i := 632) (by decide +kernel)⟩
theorem lw_p38 : lw_okq (⟨"CoverHouseModel", "coveredBy", "(IJJ)I"⟩, 33) := ⟨⟨by decide +kernel, by decide +kernel⟩, List.mem_of_getElem? (i := 424) (by decide +kernel), List.mem_of_getElem? (i := 655) (by decide +kernel), List.mem_of_getElem? (i := 656) (by decide +kernel)⟩
def lw_privs_3 : List (MethodName × Nat) := [(⟨"CoverHouseModel", "pointOf", "(I)I"⟩, 33), (⟨"CoverHouseModel", "work", "()V"⟩, 33), (⟨"CoverHouseModel", "better", "(IIJJ)V"⟩, 33), (⟨"CoverHouseModel", "keep", "(IIIJJ)V"⟩, 33), (⟨"CoverHouseModel", "placeOf", "(II)I"⟩, 33), (⟨"CoverHouseModel", "isNeeded", "(I)Z"⟩, 33), (⟨"CoverHouseModel", "coveredBy", "(IJJ)I"⟩, 33)]
theorem lw_r3 : ∀ q ∈ lw_privs_3, lw_okq q := List.forall_mem_cons.mpr ⟨lw_p32, List.forall_mem_cons.mpr ⟨lw_p33, List.forall_mem_cons.mpr ⟨lw_p34, List.forall_mem_cons.mpr ⟨lw_p35, List.forall_mem_cons.mpr ⟨lw_p36, List.forall_mem_cons.mpr ⟨lw_p37, List.forall_mem_cons.mpr ⟨lw_p38, fun _ h => absurd h List.not_mem_nil⟩⟩⟩⟩⟩⟩⟩
def lw_privs : List (MethodName × Nat) := lw_privs_1 ++ (lw_privs_2 ++ (lw_privs_3))
def lw_tbl : List Cond := k2_sels lw_privs ++ tables_1
theorem lw_privs_ok : ∀ q ∈ lw_privs, lw_okq q := by
  show ∀ q ∈ lw_privs_1 ++ (lw_privs_2 ++ (lw_privs_3)), lw_okq q
  exact List.forall_mem_append.mpr ⟨lw_r1, List.forall_mem_append.mpr ⟨lw_r2, lw_r3⟩⟩

theorem goodIn_sub {big ws : List Cond} (hm : ∀ w ∈ ws, w ∈ big) (h : ws.all goodWord = true) : GoodIn big ws := fun w hw => ⟨hm w hw, good_of_word (List.all_eq_true.mp h w hw)⟩
/-- the words of the tables that stay true: every method of ours has them all -/
def LW : List Cond := lw_tbl.filter goodWord
theorem LW_sub : ∀ w ∈ LW, w ∈ lw_tbl := fun _ h => (List.mem_filter.mp h).1
theorem LW_all : LW.all goodWord = true := List.all_eq_true.mpr (fun _ h => (List.mem_filter.mp h).2)
theorem LW_at {w : Cond} (i : Nat) (h : lw_tbl[i]? = some w) (hg : goodWord w = true) : w ∈ LW := List.mem_filter.mpr ⟨List.mem_of_getElem? h, hg⟩
def R_T : String := "CoverHouse$Candidates"
def F_T : u_T := fun k => match k with
  | 0 => ("CoverHouse$Candidates", "numbers", "[I", true)
  | 1 => ("CoverHouse$Candidates", "outputs", "[I", true)
  | 2 => ("CoverHouse$Candidates", "sizes", "[I", true)
  | 3 => ("CoverHouse$Candidates", "inputs", "[I", true)
  | 4 => ("CoverHouse$Candidates", "places", "[J", true)
  | 5 => ("CoverHouse$Candidates", "count", "I", false)
  | 6 => ("CoverHouse$Candidates", "duePlaces", "J", false)
  | 7 => ("CoverHouse$Candidates", "lonelyPlaces", "J", false)
  | 8 => ("CoverHouse$Candidates", "products", "LCoverHouse$Products;", true)
  | _ => ("CoverHouse$Candidates", "outputsOfProduct", "[I", true)
def ft_T : Nat → FieldType := fun k => match k with
  | 0 => .array .int
  | 1 => .array .int
  | 2 => .array .int
  | 3 => .array .int
  | 4 => .array .long
  | 5 => .int
  | 6 => .long
  | 7 => .long
  | 8 => .object "CoverHouse$Products"
  | _ => .array .int
theorem nm_T : ∀ a, a < 10 → ∀ b, b < 10 → a ≠ b → (F_T a).2.1 ≠ (F_T b).2.1 := by decide +kernel
theorem tk_T : ∀ k, k < 10 → parseFieldDescriptor (F_T k).2.2.1 = some (ft_T k) := by decide +kernel
theorem in_T : ∀ w ∈ u_ws R_T F_T 10, w ∈ LW := by decide +kernel
def R_P : String := "CoverHouse$Products"
def F_P : u_T := fun k => match k with
  | 0 => ("CoverHouse$Products", "inputs", "[I", true)
  | _ => ("CoverHouse$Products", "sizes", "[I", true)
def ft_P : Nat → FieldType := fun k => match k with
  | 0 => .array .int
  | _ => .array .int
theorem nm_P : ∀ a, a < 2 → ∀ b, b < 2 → a ≠ b → (F_P a).2.1 ≠ (F_P b).2.1 := by decide +kernel
theorem tk_P : ∀ k, k < 2 → parseFieldDescriptor (F_P k).2.2.1 = some (ft_P k) := by decide +kernel
theorem in_P : ∀ w ∈ u_ws R_P F_P 2, w ∈ LW := by decide +kernel
def R_S : String := "CoverHouse$Search"
def F_S : u_T := fun k => match k with
  | 0 => ("CoverHouse$Search", "picked", "[I", true)
  | 1 => ("CoverHouse$Search", "pickedCount", "I", false)
  | 2 => ("CoverHouse$Search", "pickedParts", "I", false)
  | 3 => ("CoverHouse$Search", "table", "LCoverHouse$Candidates;", true)
  | 4 => ("CoverHouse$Search", "weights", "[I", true)
  | 5 => ("CoverHouse$Search", "servers", "[J", true)
  | 6 => ("CoverHouse$Search", "bestWeight", "I", false)
  | _ => ("CoverHouse$Search", "bestSet", "J", false)
def ft_S : Nat → FieldType := fun k => match k with
  | 0 => .array .int
  | 1 => .int
  | 2 => .int
  | 3 => .object "CoverHouse$Candidates"
  | 4 => .array .int
  | 5 => .array .long
  | 6 => .int
  | _ => .long
theorem nm_S : ∀ a, a < 8 → ∀ b, b < 8 → a ≠ b → (F_S a).2.1 ≠ (F_S b).2.1 := by decide +kernel
theorem tk_S : ∀ k, k < 8 → parseFieldDescriptor (F_S k).2.2.1 = some (ft_S k) := by decide +kernel
theorem in_S : ∀ w ∈ u_ws R_S F_S 8, w ∈ LW := by decide +kernel
def R_H : String := "CoverHouse"
def F_H : u_T := fun k => match k with
  | 0 => ("CoverHouse", "oneSets", "[I", true)
  | 1 => ("CoverHouse", "zeroSets", "[I", true)
  | 2 => ("CoverHouse", "search", "LCoverHouse$Search;", true)
  | 3 => ("CoverHouse", "table", "LCoverHouse$Candidates;", true)
  | 4 => ("CoverHouse", "inputCount", "I", false)
  | 5 => ("CoverHouse", "outputCount", "I", false)
  | 6 => ("CoverHouse", "gathered", "Z", false)
  | _ => ("CoverHouse", "searched", "Z", false)
def ft_H : Nat → FieldType := fun k => match k with
  | 0 => .array .int
  | 1 => .array .int
  | 2 => .object "CoverHouse$Search"
  | 3 => .object "CoverHouse$Candidates"
  | 4 => .int
  | 5 => .int
  | 6 => .boolean
  | _ => .boolean
theorem nm_H : ∀ a, a < 8 → ∀ b, b < 8 → a ≠ b → (F_H a).2.1 ≠ (F_H b).2.1 := by decide +kernel
theorem tk_H : ∀ k, k < 8 → parseFieldDescriptor (F_H k).2.2.1 = some (ft_H k) := by decide +kernel
theorem in_H : ∀ w ∈ u_ws R_H F_H 8, w ∈ LW := by decide +kernel
def R_M : String := "CoverHouseModel"
def F_M : u_T := fun k => match k with
  | 0 => ("CoverHouseModel", "thrown", "I", false)
  | 1 => ("CoverHouseModel", "inputs", "I", false)
  | 2 => ("CoverHouseModel", "outputs", "I", false)
  | 3 => ("CoverHouseModel", "ones", "[I", true)
  | 4 => ("CoverHouseModel", "anything", "[I", true)
  | 5 => ("CoverHouseModel", "many", "I", false)
  | 6 => ("CoverHouseModel", "numbers", "[I", true)
  | 7 => ("CoverHouseModel", "of", "[I", true)
  | 8 => ("CoverHouseModel", "parts", "[I", true)
  | 9 => ("CoverHouseModel", "covers", "[I", true)
  | 10 => ("CoverHouseModel", "covered", "[I", true)
  | 11 => ("CoverHouseModel", "known", "Z", false)
  | 12 => ("CoverHouseModel", "chosen", "I", false)
  | 13 => ("CoverHouseModel", "choice", "[I", true)
  | 14 => ("CoverHouseModel", "there", "[Z", true)
  | 15 => ("CoverHouseModel", "lefts", "[I", true)
  | 16 => ("CoverHouseModel", "rooms", "[I", true)
  | 17 => ("CoverHouseModel", "sizes", "[I", true)
  | 18 => ("CoverHouseModel", "lows", "[J", true)
  | 19 => ("CoverHouseModel", "highs", "[J", true)
  | 20 => ("CoverHouseModel", "kept", "I", false)
  | 21 => ("CoverHouseModel", "waitLeft", "[I", true)
  | 22 => ("CoverHouseModel", "waitPoint", "[I", true)
  | 23 => ("CoverHouseModel", "waitNext", "[I", true)
  | 24 => ("CoverHouseModel", "waitRoom", "[I", true)
  | 25 => ("CoverHouseModel", "bestSize", "[I", true)
  | 26 => ("CoverHouseModel", "bestLow", "[J", true)
  | 27 => ("CoverHouseModel", "bestHigh", "[J", true)
  | 28 => ("CoverHouseModel", "deep", "I", false)
  | 29 => ("CoverHouseModel", "came", "Z", false)
  | 30 => ("CoverHouseModel", "cameSize", "I", false)
  | 31 => ("CoverHouseModel", "cameLow", "J", false)
  | _ => ("CoverHouseModel", "cameHigh", "J", false)
def ft_M : Nat → FieldType := fun k => match k with
  | 0 => .int
  | 1 => .int
  | 2 => .int
  | 3 => .array .int
  | 4 => .array .int
  | 5 => .int
  | 6 => .array .int
  | 7 => .array .int
  | 8 => .array .int
  | 9 => .array .int
  | 10 => .array .int
  | 11 => .boolean
  | 12 => .int
  | 13 => .array .int
  | 14 => .array .boolean
  | 15 => .array .int
  | 16 => .array .int
  | 17 => .array .int
  | 18 => .array .long
  | 19 => .array .long
  | 20 => .int
  | 21 => .array .int
  | 22 => .array .int
  | 23 => .array .int
  | 24 => .array .int
  | 25 => .array .int
  | 26 => .array .long
  | 27 => .array .long
  | 28 => .int
  | 29 => .boolean
  | 30 => .int
  | 31 => .long
  | _ => .long
theorem nm_M : ∀ a, a < 33 → ∀ b, b < 33 → a ≠ b → (F_M a).2.1 ≠ (F_M b).2.1 := by decide +kernel
theorem tk_M : ∀ k, k < 33 → parseFieldDescriptor (F_M k).2.2.1 = some (ft_M k) := by decide +kernel
theorem in_M : ∀ w ∈ u_ws R_M F_M 33, w ∈ LW := by decide +kernel
def R_J : String := "java/lang/Long"
def R_L : String := "CoverHouseLaw"
abbrev vC : List vw_C := [(R_T, F_T, 10), (R_P, F_P, 2), (R_S, F_S, 8), (R_H, F_H, 8), (R_M, F_M, 33)]
abbrev b_H_init : ByteArray := prog_1_method_1_code
def y_H_init : MethodName := ⟨R_H, "<init>", "()V"⟩
def w_H_init : List Cond := .code y_H_init b_H_init 1 none :: LW
abbrev b_H_begin : ByteArray := prog_1_method_2_code
def y_H_begin : MethodName := ⟨R_H, "begin", "(II)V"⟩
def w_H_begin : List Cond := .code y_H_begin b_H_begin 3 none :: LW
abbrev b_H_set : ByteArray := prog_1_method_3_code
def y_H_set : MethodName := ⟨R_H, "set", "(III)V"⟩
def w_H_set : List Cond := .code y_H_set b_H_set 5 none :: LW
abbrev b_H_candidates : ByteArray := prog_1_method_4_code
def y_H_candidates : MethodName := ⟨R_H, "candidates", "()I"⟩
def w_H_candidates : List Cond := .code y_H_candidates b_H_candidates 1 (some .int) :: LW
abbrev b_H_candidate : ByteArray := prog_1_method_5_code
def y_H_candidate : MethodName := ⟨R_H, "candidate", "(II)I"⟩
def w_H_candidate : List Cond := .code y_H_candidate b_H_candidate 3 (some .int) :: LW
abbrev b_H_least : ByteArray := prog_1_method_6_code
def y_H_least : MethodName := ⟨R_H, "least", "()I"⟩
def w_H_least : List Cond := .code y_H_least b_H_least 1 (some .int) :: LW
abbrev b_H_parts : ByteArray := prog_1_method_7_code
def y_H_parts : MethodName := ⟨R_H, "parts", "()I"⟩
def w_H_parts : List Cond := .code y_H_parts b_H_parts 1 (some .int) :: LW
abbrev b_H_chosen : ByteArray := prog_1_method_8_code
def y_H_chosen : MethodName := ⟨R_H, "chosen", "(I)I"⟩
def w_H_chosen : List Cond := .code y_H_chosen b_H_chosen 2 (some .int) :: LW
abbrev b_H_value : ByteArray := prog_1_method_9_code
def y_H_value : MethodName := ⟨R_H, "value", "(II)Z"⟩
def w_H_value : List Cond := .code y_H_value b_H_value 3 (some .boolean) :: LW
abbrev b_H_thinned : ByteArray := prog_1_method_10_code
def y_H_thinned : MethodName := ⟨R_H, "thinned", "(I)I"⟩
def w_H_thinned : List Cond := .code y_H_thinned b_H_thinned 2 (some .int) :: LW
abbrev b_H_restart : ByteArray := prog_1_method_11_code
def y_H_restart : MethodName := ⟨R_H, "restart", "(II)V"⟩
def w_H_restart : List Cond := .code y_H_restart b_H_restart 4 none :: LW
abbrev b_H_forget : ByteArray := prog_1_method_12_code
def y_H_forget : MethodName := ⟨R_H, "forget", "()V"⟩
def w_H_forget : List Cond := .code y_H_forget b_H_forget 1 none :: LW
abbrev b_H_gather : ByteArray := prog_1_method_13_code
def y_H_gather : MethodName := ⟨R_H, "gather", "()V"⟩
def w_H_gather : List Cond := .code y_H_gather b_H_gather 1 none :: LW
abbrev b_H_solve : ByteArray := prog_1_method_14_code
def y_H_solve : MethodName := ⟨R_H, "solve", "()V"⟩
def w_H_solve : List Cond := .code y_H_solve b_H_solve 1 none :: LW
abbrev b_H_isOutput : ByteArray := prog_1_method_15_code
def y_H_isOutput : MethodName := ⟨R_H, "isOutput", "(I)Z"⟩
def w_H_isOutput : List Cond := .code y_H_isOutput b_H_isOutput 2 (some .boolean) :: LW
abbrev b_H_allInputs : ByteArray := prog_1_method_16_code
def y_H_allInputs : MethodName := ⟨R_H, "allInputs", "()I"⟩
def w_H_allInputs : List Cond := .code y_H_allInputs b_H_allInputs 1 (some .int) :: LW
abbrev b_M_init : ByteArray := prog_6_method_1_code
def y_M_init : MethodName := ⟨R_M, "<init>", "()V"⟩
def w_M_init : List Cond := .code y_M_init b_M_init 1 none :: LW
abbrev b_M_thrown : ByteArray := prog_6_method_2_code
def y_M_thrown : MethodName := ⟨R_M, "thrown", "()I"⟩
def w_M_thrown : List Cond := .code y_M_thrown b_M_thrown 1 (some .int) :: LW
abbrev b_M_refuse : ByteArray := prog_6_method_3_code
def y_M_refuse : MethodName := ⟨R_M, "refuse", "(ZZ)Z"⟩
def w_M_refuse : List Cond := .code y_M_refuse b_M_refuse 3 (some .boolean) :: LW
abbrev b_M_in : ByteArray := prog_6_method_4_code
def y_M_in : MethodName := ⟨R_M, "in", "(III)Z"⟩
def w_M_in : List Cond := .code y_M_in b_M_in 3 (some .boolean) :: LW
abbrev b_M_begin : ByteArray := prog_6_method_5_code
def y_M_begin : MethodName := ⟨R_M, "begin", "(II)V"⟩
def w_M_begin : List Cond := .code y_M_begin b_M_begin 4 none :: LW
abbrev b_M_all : ByteArray := prog_6_method_6_code
def y_M_all : MethodName := ⟨R_M, "all", "()I"⟩
def w_M_all : List Cond := .code y_M_all b_M_all 1 (some .int) :: LW
abbrev b_M_set : ByteArray := prog_6_method_7_code
def y_M_set : MethodName := ⟨R_M, "set", "(III)V"⟩
def w_M_set : List Cond := .code y_M_set b_M_set 6 none :: LW
abbrev b_M_digit : ByteArray := prog_6_method_8_code
def y_M_digit : MethodName := ⟨R_M, "digit", "(II)I"⟩
def w_M_digit : List Cond := .code y_M_digit b_M_digit 4 (some .int) :: LW
abbrev b_M_productsOf : ByteArray := prog_6_method_9_code
def y_M_productsOf : MethodName := ⟨R_M, "productsOf", "()I"⟩
def w_M_productsOf : List Cond := .code y_M_productsOf b_M_productsOf 1 (some .int) :: LW
abbrev b_M_onesOf : ByteArray := prog_6_method_10_code
def y_M_onesOf : MethodName := ⟨R_M, "onesOf", "(I)I"⟩
def w_M_onesOf : List Cond := .code y_M_onesOf b_M_onesOf 7 (some .int) :: LW
abbrev b_M_outputsOf : ByteArray := prog_6_method_11_code
def y_M_outputsOf : MethodName := ⟨R_M, "outputsOf", "(I)I"⟩
def w_M_outputsOf : List Cond := .code y_M_outputsOf b_M_outputsOf 5 (some .int) :: LW
abbrev b_M_isCandidate : ByteArray := prog_6_method_12_code
def y_M_isCandidate : MethodName := ⟨R_M, "isCandidate", "(I)Z"⟩
def w_M_isCandidate : List Cond := .code y_M_isCandidate b_M_isCandidate 7 (some .boolean) :: LW
abbrev b_M_partsOf : ByteArray := prog_6_method_13_code
def y_M_partsOf : MethodName := ⟨R_M, "partsOf", "(I)I"⟩
def w_M_partsOf : List Cond := .code y_M_partsOf b_M_partsOf 4 (some .int) :: LW
abbrev b_M_find : ByteArray := prog_6_method_14_code
def y_M_find : MethodName := ⟨R_M, "find", "()V"⟩
def w_M_find : List Cond := .code y_M_find b_M_find 2 none :: LW
abbrev b_M_candidates : ByteArray := prog_6_method_15_code
def y_M_candidates : MethodName := ⟨R_M, "candidates", "()I"⟩
def w_M_candidates : List Cond := .code y_M_candidates b_M_candidates 1 (some .int) :: LW
abbrev b_M_isNeeded : ByteArray := prog_6_method_16_code
def y_M_isNeeded : MethodName := ⟨R_M, "isNeeded", "(I)Z"⟩
def w_M_isNeeded : List Cond := .code y_M_isNeeded b_M_isNeeded 4 (some .boolean) :: LW
abbrev b_M_candidate : ByteArray := prog_6_method_17_code
def y_M_candidate : MethodName := ⟨R_M, "candidate", "(II)I"⟩
def w_M_candidate : List Cond := .code y_M_candidate b_M_candidate 4 (some .int) :: LW
abbrev b_M_placeOf : ByteArray := prog_6_method_18_code
def y_M_placeOf : MethodName := ⟨R_M, "placeOf", "(II)I"⟩
def w_M_placeOf : List Cond := .code y_M_placeOf b_M_placeOf 4 (some .int) :: LW
abbrev b_M_pointsOf : ByteArray := prog_6_method_19_code
def y_M_pointsOf : MethodName := ⟨R_M, "pointsOf", "(I)I"⟩
def w_M_pointsOf : List Cond := .code y_M_pointsOf b_M_pointsOf 3 (some .int) :: LW
abbrev b_M_isHopeless : ByteArray := prog_6_method_20_code
def y_M_isHopeless : MethodName := ⟨R_M, "isHopeless", "(II)Z"⟩
def w_M_isHopeless : List Cond := .code y_M_isHopeless b_M_isHopeless 6 (some .boolean) :: LW
abbrev b_M_pointOf : ByteArray := prog_6_method_21_code
def y_M_pointOf : MethodName := ⟨R_M, "pointOf", "(I)I"⟩
def w_M_pointOf : List Cond := .code y_M_pointOf b_M_pointOf 7 (some .int) :: LW
abbrev b_M_wait : ByteArray := prog_6_method_22_code
def y_M_wait : MethodName := ⟨R_M, "wait", "(II)V"⟩
def w_M_wait : List Cond := .code y_M_wait b_M_wait 3 none :: LW
abbrev b_M_isLess : ByteArray := prog_6_method_23_code
def y_M_isLess : MethodName := ⟨R_M, "isLess", "(JJJJ)Z"⟩
def w_M_isLess : List Cond := .code y_M_isLess b_M_isLess 10 (some .boolean) :: LW
abbrev b_M_better : ByteArray := prog_6_method_24_code
def y_M_better : MethodName := ⟨R_M, "better", "(IIJJ)V"⟩
def w_M_better : List Cond := .code y_M_better b_M_better 14 none :: LW
abbrev b_M_keep : ByteArray := prog_6_method_25_code
def y_M_keep : MethodName := ⟨R_M, "keep", "(IIIJJ)V"⟩
def w_M_keep : List Cond := .code y_M_keep b_M_keep 9 none :: LW
abbrev b_M_work : ByteArray := prog_6_method_26_code
def y_M_work : MethodName := ⟨R_M, "work", "()V"⟩
def w_M_work : List Cond := .code y_M_work b_M_work 6 none :: LW
abbrev b_M_solve : ByteArray := prog_6_method_27_code
def y_M_solve : MethodName := ⟨R_M, "solve", "()V"⟩
def w_M_solve : List Cond := .code y_M_solve b_M_solve 4 none :: LW
abbrev b_M_least : ByteArray := prog_6_method_28_code
def y_M_least : MethodName := ⟨R_M, "least", "()I"⟩
def w_M_least : List Cond := .code y_M_least b_M_least 1 (some .int) :: LW
abbrev b_M_parts : ByteArray := prog_6_method_29_code
def y_M_parts : MethodName := ⟨R_M, "parts", "()I"⟩
def w_M_parts : List Cond := .code y_M_parts b_M_parts 3 (some .int) :: LW
abbrev b_M_chosen : ByteArray := prog_6_method_30_code
def y_M_chosen : MethodName := ⟨R_M, "chosen", "(I)I"⟩
def w_M_chosen : List Cond := .code y_M_chosen b_M_chosen 2 (some .int) :: LW
abbrev b_M_value : ByteArray := prog_6_method_31_code
def y_M_value : MethodName := ⟨R_M, "value", "(II)Z"⟩
def w_M_value : List Cond := .code y_M_value b_M_value 6 (some .boolean) :: LW
abbrev b_M_coveredBy : ByteArray := prog_6_method_32_code
def y_M_coveredBy : MethodName := ⟨R_M, "coveredBy", "(IJJ)I"⟩
def w_M_coveredBy : List Cond := .code y_M_coveredBy b_M_coveredBy 9 (some .int) :: LW
abbrev b_M_thinned : ByteArray := prog_6_method_33_code
def y_M_thinned : MethodName := ⟨R_M, "thinned", "(I)I"⟩
def w_M_thinned : List Cond := .code y_M_thinned b_M_thinned 14 (some .int) :: LW
abbrev b_T_init : ByteArray := prog_2_method_1_code
def y_T_init : MethodName := ⟨R_T, "<init>", "()V"⟩
def w_T_init : List Cond := .code y_T_init b_T_init 1 none :: LW
abbrev b_T_fill : ByteArray := prog_2_method_2_code
def y_T_fill : MethodName := ⟨R_T, "fill", "(II[I[I)V"⟩
def w_T_fill : List Cond := .code y_T_fill b_T_fill 7 none :: LW
abbrev b_T_outputsOf : ByteArray := prog_2_method_3_code
def y_T_outputsOf : MethodName := ⟨R_T, "outputsOf", "(II[I)I"⟩
def w_T_outputsOf : List Cond := .code y_T_outputsOf b_T_outputsOf 5 (some .int) :: LW
abbrev b_T_placesOf : ByteArray := prog_2_method_4_code
def y_T_placesOf : MethodName := ⟨R_T, "placesOf", "([II)J"⟩
def w_T_placesOf : List Cond := .code y_T_placesOf b_T_placesOf 5 (some .long) :: LW
abbrev b_T_isCandidate : ByteArray := prog_2_method_5_code
def y_T_isCandidate : MethodName := ⟨R_T, "isCandidate", "(I)Z"⟩
def w_T_isCandidate : List Cond := .code y_T_isCandidate b_T_isCandidate 5 (some .boolean) :: LW
abbrev b_T_append : ByteArray := prog_2_method_6_code
def y_T_append : MethodName := ⟨R_T, "append", "(I[I)V"⟩
def w_T_append : List Cond := .code y_T_append b_T_append 6 none :: LW
abbrev b_T_findLonelyPlaces : ByteArray := prog_2_method_7_code
def y_T_findLonelyPlaces : MethodName := ⟨R_T, "findLonelyPlaces", "()V"⟩
def w_T_findLonelyPlaces : List Cond := .code y_T_findLonelyPlaces b_T_findLonelyPlaces 6 none :: LW
abbrev b_T_isNeeded : ByteArray := prog_2_method_8_code
def y_T_isNeeded : MethodName := ⟨R_T, "isNeeded", "(I)Z"⟩
def w_T_isNeeded : List Cond := .code y_T_isNeeded b_T_isNeeded 2 (some .boolean) :: LW
abbrev b_T_isCover : ByteArray := prog_2_method_9_code
def y_T_isCover : MethodName := ⟨R_T, "isCover", "(J)Z"⟩
def w_T_isCover : List Cond := .code y_T_isCover b_T_isCover 6 (some .boolean) :: LW
abbrev b_T_countThinned : ByteArray := prog_2_method_10_code
def y_T_countThinned : MethodName := ⟨R_T, "countThinned", "(I)I"⟩
def w_T_countThinned : List Cond := .code y_T_countThinned b_T_countThinned 7 (some .int) :: LW
abbrev b_P_init : ByteArray := prog_3_method_1_code
def y_P_init : MethodName := ⟨R_P, "<init>", "()V"⟩
def w_P_init : List Cond := .code y_P_init b_P_init 2 none :: LW
abbrev b_P_describe : ByteArray := prog_3_method_2_code
def y_P_describe : MethodName := ⟨R_P, "describe", "(I)V"⟩
def w_P_describe : List Cond := .code y_P_describe b_P_describe 7 none :: LW
abbrev b_P_howMany : ByteArray := prog_3_method_3_code
def y_P_howMany : MethodName := ⟨R_P, "howMany", "(I)I"⟩
def w_P_howMany : List Cond := .code y_P_howMany b_P_howMany 1 (some .int) :: LW
abbrev b_P_withoutPart : ByteArray := prog_3_method_4_code
def y_P_withoutPart : MethodName := ⟨R_P, "withoutPart", "(II)I"⟩
def w_P_withoutPart : List Cond := .code y_P_withoutPart b_P_withoutPart 4 (some .int) :: LW
abbrev b_S_init : ByteArray := prog_4_method_1_code
def y_S_init : MethodName := ⟨R_S, "<init>", "()V"⟩
def w_S_init : List Cond := .code y_S_init b_S_init 1 none :: LW
abbrev b_S_findLeast : ByteArray := prog_4_method_2_code
def y_S_findLeast : MethodName := ⟨R_S, "findLeast", "()V"⟩
def w_S_findLeast : List Cond := .code y_S_findLeast b_S_findLeast 2 none :: LW
abbrev b_S_makesOne : ByteArray := prog_4_method_3_code
def y_S_makesOne : MethodName := ⟨R_S, "makesOne", "(II)Z"⟩
def w_S_makesOne : List Cond := .code y_S_makesOne b_S_makesOne 6 (some .boolean) :: LW
abbrev b_S_serversOf : ByteArray := prog_4_method_4_code
def y_S_serversOf : MethodName := ⟨R_S, "serversOf", "(I)J"⟩
def w_S_serversOf : List Cond := .code y_S_serversOf b_S_serversOf 5 (some .long) :: LW
abbrev b_S_listBest : ByteArray := prog_4_method_5_code
def y_S_listBest : MethodName := ⟨R_S, "listBest", "()V"⟩
def w_S_listBest : List Cond := .code y_S_listBest b_S_listBest 2 none :: LW
abbrev b_S_extend : ByteArray := prog_4_method_6_code
def y_S_extend : MethodName := ⟨R_S, "extend", "(IJJIJ)V"⟩
def w_S_extend : List Cond := .code y_S_extend b_S_extend 16 none :: LW
abbrev b_S_keepIfBetter : ByteArray := prog_4_method_7_code
def y_S_keepIfBetter : MethodName := ⟨R_S, "keepIfBetter", "(IJ)V"⟩
def w_S_keepIfBetter : List Cond := .code y_S_keepIfBetter b_S_keepIfBetter 4 none :: LW
abbrev b_S_isBetterThanBest : ByteArray := prog_4_method_8_code
def y_S_isBetterThanBest : MethodName := ⟨R_S, "isBetterThanBest", "(IJ)Z"⟩
def w_S_isBetterThanBest : List Cond := .code y_S_isBetterThanBest b_S_isBetterThanBest 8 (some .boolean) :: LW
abbrev b_S_withoutDominated : ByteArray := prog_4_method_9_code
def y_S_withoutDominated : MethodName := ⟨R_S, "withoutDominated", "(JJ)J"⟩
def w_S_withoutDominated : List Cond := .code y_S_withoutDominated b_S_withoutDominated 8 (some .long) :: LW
abbrev b_S_isDominated : ByteArray := prog_4_method_10_code
def y_S_isDominated : MethodName := ⟨R_S, "isDominated", "(IJJ)Z"⟩
def w_S_isDominated : List Cond := .code y_S_isDominated b_S_isDominated 10 (some .boolean) :: LW
abbrev b_S_weightToCome : ByteArray := prog_4_method_11_code
def y_S_weightToCome : MethodName := ⟨R_S, "weightToCome", "(JJ)I"⟩
def w_S_weightToCome : List Cond := .code y_S_weightToCome b_S_weightToCome 11 (some .int) :: LW
abbrev b_S_lightestOf : ByteArray := prog_4_method_12_code
def y_S_lightestOf : MethodName := ⟨R_S, "lightestOf", "(J)I"⟩
def w_S_lightestOf : List Cond := .code y_S_lightestOf b_S_lightestOf 5 (some .int) :: LW
abbrev b_S_fewestServers : ByteArray := prog_4_method_13_code
def y_S_fewestServers : MethodName := ⟨R_S, "fewestServers", "(JJ)J"⟩
def w_S_fewestServers : List Cond := .code y_S_fewestServers b_S_fewestServers 10 (some .long) :: LW
abbrev b_L_begin : ByteArray := method_3_code
def y_L_begin : MethodName := ⟨R_L, "begin", "(LCoverHouse;II)I"⟩
abbrev b_L_set : ByteArray := method_4_code
def y_L_set : MethodName := ⟨R_L, "set", "(LCoverHouse;III)I"⟩
abbrev b_L_candidate : ByteArray := method_5_code
def y_L_candidate : MethodName := ⟨R_L, "candidate", "(LCoverHouse;II[J)I"⟩
abbrev b_L_chosen : ByteArray := method_6_code
def y_L_chosen : MethodName := ⟨R_L, "chosen", "(LCoverHouse;I[J)I"⟩
abbrev b_L_value : ByteArray := method_7_code
def y_L_value : MethodName := ⟨R_L, "value", "(LCoverHouse;II[J)I"⟩
abbrev b_J_bitCount : ByteArray := prog_10_method_50_code
def y_J_bitCount : MethodName := ⟨R_J, "bitCount", "(J)I"⟩
def w_J_bitCount : List Cond := .code y_J_bitCount b_J_bitCount 2 (some .int) :: LW
