section
-- ===== PART A: goes FIRST, ahead of the names: the tables' words, and 'selects' of the private methods out of them =====
/-- a private method of a class that the tables say can be made, by its rows of tables_1 -/
def lw_okq (q : MethodName × Nat) : Prop := (q.1.cls ≠ "java/lang/invoke/MethodHandle" ∧ q.1.cls ≠ "java/lang/invoke/VarHandle") ∧ Cond.instantiable q.1.cls q.2 ∈ tables_1 ∧ Cond.privateMethod q.1 ∈ tables_1 ∧ Cond.instanceMethod q.1 ∈ tables_1
theorem lw_p0 : lw_okq (⟨"CoverHouse$Products", "describe", "(I)V"⟩, 2) := ⟨⟨by decide +kernel, by decide +kernel⟩, List.mem_of_getElem? (i := 34) (by decide +kernel), List.mem_of_getElem? (i := 40) (by decide +kernel), List.mem_of_getElem? (i := 41) (by decide +kernel)⟩
theorem lw_p1 : lw_okq (⟨"CoverHouse", "restart", "(II)V"⟩, 8) := ⟨⟨by decide +kernel, by decide +kernel⟩, List.mem_of_getElem? (i := 14) (by decide +kernel), List.mem_of_getElem? (i := 129) (by decide +kernel), List.mem_of_getElem? (i := 130) (by decide +kernel)⟩
theorem lw_p2 : lw_okq (⟨"CoverHouse", "allInputs", "()I"⟩, 8) := ⟨⟨by decide +kernel, by decide +kernel⟩, List.mem_of_getElem? (i := 14) (by decide +kernel), List.mem_of_getElem? (i := 133) (by decide +kernel), List.mem_of_getElem? (i := 134) (by decide +kernel)⟩
theorem lw_p3 : lw_okq (⟨"CoverHouse", "forget", "()V"⟩, 8) := ⟨⟨by decide +kernel, by decide +kernel⟩, List.mem_of_getElem? (i := 14) (by decide +kernel), List.mem_of_getElem? (i := 137) (by decide +kernel), List.mem_of_getElem? (i := 138) (by decide +kernel)⟩
theorem lw_p4 : lw_okq (⟨"CoverHouse", "gather", "()V"⟩, 8) := ⟨⟨by decide +kernel, by decide +kernel⟩, List.mem_of_getElem? (i := 14) (by decide +kernel), List.mem_of_getElem? (i := 170) (by decide +kernel), List.mem_of_getElem? (i := 171) (by decide +kernel)⟩
theorem lw_p5 : lw_okq (⟨"CoverHouse$Candidates", "isCandidate", "(I)Z"⟩, 10) := ⟨⟨by decide +kernel, by decide +kernel⟩, List.mem_of_getElem? (i := 28) (by decide +kernel), List.mem_of_getElem? (i := 189) (by decide +kernel), List.mem_of_getElem? (i := 190) (by decide +kernel)⟩
theorem lw_p6 : lw_okq (⟨"CoverHouse$Candidates", "append", "(I[I)V"⟩, 10) := ⟨⟨by decide +kernel, by decide +kernel⟩, List.mem_of_getElem? (i := 28) (by decide +kernel), List.mem_of_getElem? (i := 196) (by decide +kernel), List.mem_of_getElem? (i := 197) (by decide +kernel)⟩
theorem lw_p7 : lw_okq (⟨"CoverHouse$Candidates", "findLonelyPlaces", "()V"⟩, 10) := ⟨⟨by decide +kernel, by decide +kernel⟩, List.mem_of_getElem? (i := 28) (by decide +kernel), List.mem_of_getElem? (i := 200) (by decide +kernel), List.mem_of_getElem? (i := 201) (by decide +kernel)⟩
theorem lw_p8 : lw_okq (⟨"CoverHouse", "solve", "()V"⟩, 8) := ⟨⟨by decide +kernel, by decide +kernel⟩, List.mem_of_getElem? (i := 14) (by decide +kernel), List.mem_of_getElem? (i := 209) (by decide +kernel), List.mem_of_getElem? (i := 210) (by decide +kernel)⟩
theorem lw_p9 : lw_okq (⟨"CoverHouse$Search", "serversOf", "(I)J"⟩, 8) := ⟨⟨by decide +kernel, by decide +kernel⟩, List.mem_of_getElem? (i := 22) (by decide +kernel), List.mem_of_getElem? (i := 217) (by decide +kernel), List.mem_of_getElem? (i := 218) (by decide +kernel)⟩
theorem lw_p10 : lw_okq (⟨"CoverHouse$Search", "extend", "(IJJIJ)V"⟩, 8) := ⟨⟨by decide +kernel, by decide +kernel⟩, List.mem_of_getElem? (i := 22) (by decide +kernel), List.mem_of_getElem? (i := 222) (by decide +kernel), List.mem_of_getElem? (i := 223) (by decide +kernel)⟩
theorem lw_p11 : lw_okq (⟨"CoverHouse$Search", "keepIfBetter", "(IJ)V"⟩, 8) := ⟨⟨by decide +kernel, by decide +kernel⟩, List.mem_of_getElem? (i := 22) (by decide +kernel), List.mem_of_getElem? (i := 226) (by decide +kernel), List.mem_of_getElem? (i := 227) (by decide +kernel)⟩
theorem lw_p12 : lw_okq (⟨"CoverHouse$Search", "isBetterThanBest", "(IJ)Z"⟩, 8) := ⟨⟨by decide +kernel, by decide +kernel⟩, List.mem_of_getElem? (i := 22) (by decide +kernel), List.mem_of_getElem? (i := 230) (by decide +kernel), List.mem_of_getElem? (i := 231) (by decide +kernel)⟩
theorem lw_p13 : lw_okq (⟨"CoverHouse$Search", "withoutDominated", "(JJ)J"⟩, 8) := ⟨⟨by decide +kernel, by decide +kernel⟩, List.mem_of_getElem? (i := 22) (by decide +kernel), List.mem_of_getElem? (i := 234) (by decide +kernel), List.mem_of_getElem? (i := 235) (by decide +kernel)⟩
theorem lw_p14 : lw_okq (⟨"CoverHouse$Search", "isDominated", "(IJJ)Z"⟩, 8) := ⟨⟨by decide +kernel, by decide +kernel⟩, List.mem_of_getElem? (i := 22) (by decide +kernel), List.mem_of_getElem? (i := 238) (by decide +kernel), List.mem_of_getElem? (i := 239) (by decide +kernel)⟩
theorem lw_p15 : lw_okq (⟨"CoverHouse$Search", "weightToCome", "(JJ)I"⟩, 8) := ⟨⟨by decide +kernel, by decide +kernel⟩, List.mem_of_getElem? (i := 22) (by decide +kernel), List.mem_of_getElem? (i := 243) (by decide +kernel), List.mem_of_getElem? (i := 244) (by decide +kernel)⟩
def lw_privs_1 : List (MethodName × Nat) := [(⟨"CoverHouse$Products", "describe", "(I)V"⟩, 2), (⟨"CoverHouse", "restart", "(II)V"⟩, 8), (⟨"CoverHouse", "allInputs", "()I"⟩, 8), (⟨"CoverHouse", "forget", "()V"⟩, 8), (⟨"CoverHouse", "gather", "()V"⟩, 8), (⟨"CoverHouse$Candidates", "isCandidate", "(I)Z"⟩, 10), (⟨"CoverHouse$Candidates", "append", "(I[I)V"⟩, 10), (⟨"CoverHouse$Candidates", "findLonelyPlaces", "()V"⟩, 10), (⟨"CoverHouse", "solve", "()V"⟩, 8), (⟨"CoverHouse$Search", "serversOf", "(I)J"⟩, 8), (⟨"CoverHouse$Search", "extend", "(IJJIJ)V"⟩, 8), (⟨"CoverHouse$Search", "keepIfBetter", "(IJ)V"⟩, 8), (⟨"CoverHouse$Search", "isBetterThanBest", "(IJ)Z"⟩, 8), (⟨"CoverHouse$Search", "withoutDominated", "(JJ)J"⟩, 8), (⟨"CoverHouse$Search", "isDominated", "(IJJ)Z"⟩, 8), (⟨"CoverHouse$Search", "weightToCome", "(JJ)I"⟩, 8)]
theorem lw_r1 : ∀ q ∈ lw_privs_1, lw_okq q := List.forall_mem_cons.mpr ⟨lw_p0, List.forall_mem_cons.mpr ⟨lw_p1, List.forall_mem_cons.mpr ⟨lw_p2, List.forall_mem_cons.mpr ⟨lw_p3, List.forall_mem_cons.mpr ⟨lw_p4, List.forall_mem_cons.mpr ⟨lw_p5, List.forall_mem_cons.mpr ⟨lw_p6, List.forall_mem_cons.mpr ⟨lw_p7, List.forall_mem_cons.mpr ⟨lw_p8, List.forall_mem_cons.mpr ⟨lw_p9, List.forall_mem_cons.mpr ⟨lw_p10, List.forall_mem_cons.mpr ⟨lw_p11, List.forall_mem_cons.mpr ⟨lw_p12, List.forall_mem_cons.mpr ⟨lw_p13, List.forall_mem_cons.mpr ⟨lw_p14, List.forall_mem_cons.mpr ⟨lw_p15, fun _ h => absurd h List.not_mem_nil⟩⟩⟩⟩⟩⟩⟩⟩⟩⟩⟩⟩⟩⟩⟩⟩
theorem lw_p16 : lw_okq (⟨"CoverHouse$Search", "lightestOf", "(J)I"⟩, 8) := ⟨⟨by decide +kernel, by decide +kernel⟩, List.mem_of_getElem? (i := 22) (by decide +kernel), List.mem_of_getElem? (i := 247) (by decide +kernel), List.mem_of_getElem? (i := 248) (by decide +kernel)⟩
theorem lw_p17 : lw_okq (⟨"CoverHouse$Search", "fewestServers", "(JJ)J"⟩, 8) := ⟨⟨by decide +kernel, by decide +kernel⟩, List.mem_of_getElem? (i := 22) (by decide +kernel), List.mem_of_getElem? (i := 254) (by decide +kernel), List.mem_of_getElem? (i := 255) (by decide +kernel)⟩
theorem lw_p18 : lw_okq (⟨"CoverHouse$Search", "listBest", "()V"⟩, 8) := ⟨⟨by decide +kernel, by decide +kernel⟩, List.mem_of_getElem? (i := 22) (by decide +kernel), List.mem_of_getElem? (i := 264) (by decide +kernel), List.mem_of_getElem? (i := 265) (by decide +kernel)⟩
theorem lw_p19 : lw_okq (⟨"java/lang/Throwable", "fillInStackTrace", "(I)Ljava/lang/Throwable;"⟩, 6) := ⟨⟨by decide +kernel, by decide +kernel⟩, List.mem_of_getElem? (i := 330) (by decide +kernel), List.mem_of_getElem? (i := 328) (by decide +kernel), List.mem_of_getElem? (i := 329) (by decide +kernel)⟩
theorem lw_p20 : lw_okq (⟨"CoverHouse", "isOutput", "(I)Z"⟩, 8) := ⟨⟨by decide +kernel, by decide +kernel⟩, List.mem_of_getElem? (i := 14) (by decide +kernel), List.mem_of_getElem? (i := 369) (by decide +kernel), List.mem_of_getElem? (i := 370) (by decide +kernel)⟩
theorem lw_p21 : lw_okq (⟨"CoverHouseModel", "refuse", "(ZZ)Z"⟩, 33) := ⟨⟨by decide +kernel, by decide +kernel⟩, List.mem_of_getElem? (i := 424) (by decide +kernel), List.mem_of_getElem? (i := 543) (by decide +kernel), List.mem_of_getElem? (i := 544) (by decide +kernel)⟩
theorem lw_p22 : lw_okq (⟨"CoverHouseModel", "all", "()I"⟩, 33) := ⟨⟨by decide +kernel, by decide +kernel⟩, List.mem_of_getElem? (i := 424) (by decide +kernel), List.mem_of_getElem? (i := 551) (by decide +kernel), List.mem_of_getElem? (i := 552) (by decide +kernel)⟩
theorem lw_p23 : lw_okq (⟨"CoverHouseModel", "find", "()V"⟩, 33) := ⟨⟨by decide +kernel, by decide +kernel⟩, List.mem_of_getElem? (i := 424) (by decide +kernel), List.mem_of_getElem? (i := 559) (by decide +kernel), List.mem_of_getElem? (i := 560) (by decide +kernel)⟩
theorem lw_p24 : lw_okq (⟨"CoverHouseModel", "productsOf", "()I"⟩, 33) := ⟨⟨by decide +kernel, by decide +kernel⟩, List.mem_of_getElem? (i := 424) (by decide +kernel), List.mem_of_getElem? (i := 563) (by decide +kernel), List.mem_of_getElem? (i := 564) (by decide +kernel)⟩
theorem lw_p25 : lw_okq (⟨"CoverHouseModel", "isCandidate", "(I)Z"⟩, 33) := ⟨⟨by decide +kernel, by decide +kernel⟩, List.mem_of_getElem? (i := 424) (by decide +kernel), List.mem_of_getElem? (i := 567) (by decide +kernel), List.mem_of_getElem? (i := 568) (by decide +kernel)⟩
theorem lw_p26 : lw_okq (⟨"CoverHouseModel", "outputsOf", "(I)I"⟩, 33) := ⟨⟨by decide +kernel, by decide +kernel⟩, List.mem_of_getElem? (i := 424) (by decide +kernel), List.mem_of_getElem? (i := 571) (by decide +kernel), List.mem_of_getElem? (i := 572) (by decide +kernel)⟩
theorem lw_p27 : lw_okq (⟨"CoverHouseModel", "onesOf", "(I)I"⟩, 33) := ⟨⟨by decide +kernel, by decide +kernel⟩, List.mem_of_getElem? (i := 424) (by decide +kernel), List.mem_of_getElem? (i := 575) (by decide +kernel), List.mem_of_getElem? (i := 576) (by decide +kernel)⟩
theorem lw_p28 : lw_okq (⟨"CoverHouseModel", "partsOf", "(I)I"⟩, 33) := ⟨⟨by decide +kernel, by decide +kernel⟩, List.mem_of_getElem? (i := 424) (by decide +kernel), List.mem_of_getElem? (i := 582) (by decide +kernel), List.mem_of_getElem? (i := 583) (by decide +kernel)⟩
theorem lw_p29 : lw_okq (⟨"CoverHouseModel", "solve", "()V"⟩, 33) := ⟨⟨by decide +kernel, by decide +kernel⟩, List.mem_of_getElem? (i := 424) (by decide +kernel), List.mem_of_getElem? (i := 586) (by decide +kernel), List.mem_of_getElem? (i := 587) (by decide +kernel)⟩
theorem lw_p30 : lw_okq (⟨"CoverHouseModel", "isHopeless", "(II)Z"⟩, 33) := ⟨⟨by decide +kernel, by decide +kernel⟩, List.mem_of_getElem? (i := 424) (by decide +kernel), List.mem_of_getElem? (i := 590) (by decide +kernel), List.mem_of_getElem? (i := 591) (by decide +kernel)⟩
theorem lw_p31 : lw_okq (⟨"CoverHouseModel", "wait", "(II)V"⟩, 33) := ⟨⟨by decide +kernel, by decide +kernel⟩, List.mem_of_getElem? (i := 424) (by decide +kernel), List.mem_of_getElem? (i := 597) (by decide +kernel), List.mem_of_getElem? (i := 598) (by decide +kernel)⟩
def lw_privs_2 : List (MethodName × Nat) := [(⟨"CoverHouse$Search", "lightestOf", "(J)I"⟩, 8), (⟨"CoverHouse$Search", "fewestServers", "(JJ)J"⟩, 8), (⟨"CoverHouse$Search", "listBest", "()V"⟩, 8), (⟨"java/lang/Throwable", "fillInStackTrace", "(I)Ljava/lang/Throwable;"⟩, 6), (⟨"CoverHouse", "isOutput", "(I)Z"⟩, 8), (⟨"CoverHouseModel", "refuse", "(ZZ)Z"⟩, 33), (⟨"CoverHouseModel", "all", "()I"⟩, 33), (⟨"CoverHouseModel", "find", "()V"⟩, 33), (⟨"CoverHouseModel", "productsOf", "()I"⟩, 33), (⟨"CoverHouseModel", "isCandidate", "(I)Z"⟩, 33), (⟨"CoverHouseModel", "outputsOf", "(I)I"⟩, 33), (⟨"CoverHouseModel", "onesOf", "(I)I"⟩, 33), (⟨"CoverHouseModel", "partsOf", "(I)I"⟩, 33), (⟨"CoverHouseModel", "solve", "()V"⟩, 33), (⟨"CoverHouseModel", "isHopeless", "(II)Z"⟩, 33), (⟨"CoverHouseModel", "wait", "(II)V"⟩, 33)]
theorem lw_r2 : ∀ q ∈ lw_privs_2, lw_okq q := List.forall_mem_cons.mpr ⟨lw_p16, List.forall_mem_cons.mpr ⟨lw_p17, List.forall_mem_cons.mpr ⟨lw_p18, List.forall_mem_cons.mpr ⟨lw_p19, List.forall_mem_cons.mpr ⟨lw_p20, List.forall_mem_cons.mpr ⟨lw_p21, List.forall_mem_cons.mpr ⟨lw_p22, List.forall_mem_cons.mpr ⟨lw_p23, List.forall_mem_cons.mpr ⟨lw_p24, List.forall_mem_cons.mpr ⟨lw_p25, List.forall_mem_cons.mpr ⟨lw_p26, List.forall_mem_cons.mpr ⟨lw_p27, List.forall_mem_cons.mpr ⟨lw_p28, List.forall_mem_cons.mpr ⟨lw_p29, List.forall_mem_cons.mpr ⟨lw_p30, List.forall_mem_cons.mpr ⟨lw_p31, fun _ h => absurd h List.not_mem_nil⟩⟩⟩⟩⟩⟩⟩⟩⟩⟩⟩⟩⟩⟩⟩⟩
theorem lw_p32 : lw_okq (⟨"CoverHouseModel", "pointOf", "(I)I"⟩, 33) := ⟨⟨by decide +kernel, by decide +kernel⟩, List.mem_of_getElem? (i := 424) (by decide +kernel), List.mem_of_getElem? (i := 601) (by decide +kernel), List.mem_of_getElem? (i := 602) (by decide +kernel)⟩
theorem lw_p33 : lw_okq (⟨"CoverHouseModel", "work", "()V"⟩, 33) := ⟨⟨by decide +kernel, by decide +kernel⟩, List.mem_of_getElem? (i := 424) (by decide +kernel), List.mem_of_getElem? (i := 605) (by decide +kernel), List.mem_of_getElem? (i := 606) (by decide +kernel)⟩
theorem lw_p34 : lw_okq (⟨"CoverHouseModel", "better", "(IIJJ)V"⟩, 33) := ⟨⟨by decide +kernel, by decide +kernel⟩, List.mem_of_getElem? (i := 424) (by decide +kernel), List.mem_of_getElem? (i := 609) (by decide +kernel), List.mem_of_getElem? (i := 610) (by decide +kernel)⟩
theorem lw_p35 : lw_okq (⟨"CoverHouseModel", "keep", "(IIIJJ)V"⟩, 33) := ⟨⟨by decide +kernel, by decide +kernel⟩, List.mem_of_getElem? (i := 424) (by decide +kernel), List.mem_of_getElem? (i := 616) (by decide +kernel), List.mem_of_getElem? (i := 617) (by decide +kernel)⟩
theorem lw_p36 : lw_okq (⟨"CoverHouseModel", "placeOf", "(II)I"⟩, 33) := ⟨⟨by decide +kernel, by decide +kernel⟩, List.mem_of_getElem? (i := 424) (by decide +kernel), List.mem_of_getElem? (i := 621) (by decide +kernel), List.mem_of_getElem? (i := 622) (by decide +kernel)⟩
theorem lw_p37 : lw_okq (⟨"CoverHouseModel", "isNeeded", "(I)Z"⟩, 33) := ⟨⟨by decide +kernel, by decide +kernel⟩, List.mem_of_getElem? (i := 424) (by decide +kernel), List.mem_of_getElem? (i := 631) (by decide +kernel), List.mem_of_getElem? (i := 632) (by decide +kernel)⟩
theorem lw_p38 : lw_okq (⟨"CoverHouseModel", "coveredBy", "(IJJ)I"⟩, 33) := ⟨⟨by decide +kernel, by decide +kernel⟩, List.mem_of_getElem? (i := 424) (by decide +kernel), List.mem_of_getElem? (i := 655) (by decide +kernel), List.mem_of_getElem? (i := 656) (by decide +kernel)⟩
def lw_privs_3 : List (MethodName × Nat) := [(⟨"CoverHouseModel", "pointOf", "(I)I"⟩, 33), (⟨"CoverHouseModel", "work", "()V"⟩, 33), (⟨"CoverHouseModel", "better", "(IIJJ)V"⟩, 33), (⟨"CoverHouseModel", "keep", "(IIIJJ)V"⟩, 33), (⟨"CoverHouseModel", "placeOf", "(II)I"⟩, 33), (⟨"CoverHouseModel", "isNeeded", "(I)Z"⟩, 33), (⟨"CoverHouseModel", "coveredBy", "(IJJ)I"⟩, 33)]
theorem lw_r3 : ∀ q ∈ lw_privs_3, lw_okq q := List.forall_mem_cons.mpr ⟨lw_p32, List.forall_mem_cons.mpr ⟨lw_p33, List.forall_mem_cons.mpr ⟨lw_p34, List.forall_mem_cons.mpr ⟨lw_p35, List.forall_mem_cons.mpr ⟨lw_p36, List.forall_mem_cons.mpr ⟨lw_p37, List.forall_mem_cons.mpr ⟨lw_p38, fun _ h => absurd h List.not_mem_nil⟩⟩⟩⟩⟩⟩⟩
def lw_privs : List (MethodName × Nat) := lw_privs_1 ++ (lw_privs_2 ++ (lw_privs_3))
def lw_tbl : List Cond := k2_sels lw_privs ++ tables_1
theorem lw_privs_ok : ∀ q ∈ lw_privs, lw_okq q := by
  show ∀ q ∈ lw_privs_1 ++ (lw_privs_2 ++ (lw_privs_3)), lw_okq q
  exact List.forall_mem_append.mpr ⟨lw_r1, List.forall_mem_append.mpr ⟨lw_r2, lw_r3⟩⟩

theorem goodIn_sub {big ws : List Cond} (hm : ∀ w ∈ ws, w ∈ big) (h : ws.all goodWord = true) : GoodIn big ws := fun w hw => ⟨hm w hw, good_of_word (List.all_eq_true.mp h w hw)⟩
/-- the words of the tables that stay true: every method of ours has them all -/
def LW : List Cond := lw_tbl.filter goodWord
theorem LW_sub : ∀ w ∈ LW, w ∈ lw_tbl := fun _ h => (List.mem_filter.mp h).1
theorem LW_all : LW.all goodWord = true := List.all_eq_true.mpr (fun _ h => (List.mem_filter.mp h).2)
theorem LW_at {w : Cond} (i : Nat) (h : lw_tbl[i]? = some w) (hg : goodWord w = true) : w ∈ LW := List.mem_filter.mpr ⟨List.mem_of_getElem? h, hg⟩
def R_T : String := "CoverHouse$Candidates"
def F_T : u_T := fun k => match k with
  | 0 => ("CoverHouse$Candidates", "numbers", "[I", true)
  | 1 => ("CoverHouse$Candidates", "outputs", "[I", true)
  | 2 => ("CoverHouse$Candidates", "sizes", "[I", true)
  | 3 => ("CoverHouse$Candidates", "inputs", "[I", true)
  | 4 => ("CoverHouse$Candidates", "places", "[J", true)
  | 5 => ("CoverHouse$Candidates", "count", "I", false)
  | 6 => ("CoverHouse$Candidates", "duePlaces", "J", false)
  | 7 => ("CoverHouse$Candidates", "lonelyPlaces", "J", false)
  | 8 => ("CoverHouse$Candidates", "products", "LCoverHouse$Products;", true)
  | _ => ("CoverHouse$Candidates", "outputsOfProduct", "[I", true)
def ft_T : Nat → FieldType := fun k => match k with
  | 0 => .array .int
  | 1 => .array .int
  | 2 => .array .int
  | 3 => .array .int
  | 4 => .array .long
  | 5 => .int
  | 6 => .long
  | 7 => .long
  | 8 => .object "CoverHouse$Products"
  | _ => .array .int
theorem nm_T : ∀ a, a < 10 → ∀ b, b < 10 → a ≠ b → (F_T a).2.1 ≠ (F_T b).2.1 := by decide +kernel
theorem tk_T : ∀ k, k < 10 → parseFieldDescriptor (F_T k).2.2.1 = some (ft_T k) := by decide +kernel
theorem in_T : ∀ w ∈ u_ws R_T F_T 10, w ∈ LW := by decide +kernel
def R_P : String := "CoverHouse$Products"
def F_P : u_T := fun k => match k with
  | 0 => ("CoverHouse$Products", "inputs", "[I", true)
  | _ => ("CoverHouse$Products", "sizes", "[I", true)
def ft_P : Nat → FieldType := fun k => match k with
  | 0 => .array .int
  | _ => .array .int
theorem nm_P : ∀ a, a < 2 → ∀ b, b < 2 → a ≠ b → (F_P a).2.1 ≠ (F_P b).2.1 := by decide +kernel
theorem tk_P : ∀ k, k < 2 → parseFieldDescriptor (F_P k).2.2.1 = some (ft_P k) := by decide +kernel
theorem in_P : ∀ w ∈ u_ws R_P F_P 2, w ∈ LW := by decide +kernel
def R_S : String := "CoverHouse$Search"
def F_S : u_T := fun k => match k with
  | 0 => ("CoverHouse$Search", "picked", "[I", true)
  | 1 => ("CoverHouse$Search", "pickedCount", "I", false)
  | 2 => ("CoverHouse$Search", "pickedParts", "I", false)
  | 3 => ("CoverHouse$Search", "table", "LCoverHouse$Candidates;", true)
  | 4 => ("CoverHouse$Search", "weights", "[I", true)
  | 5 => ("CoverHouse$Search", "servers", "[J", true)
  | 6 => ("CoverHouse$Search", "bestWeight", "I", false)
  | _ => ("CoverHouse$Search", "bestSet", "J", false)
def ft_S : Nat → FieldType := fun k => match k with
  | 0 => .array .int
  | 1 => .int
  | 2 => .int
  | 3 => .object "CoverHouse$Candidates"
  | 4 => .array .int
  | 5 => .array .long
  | 6 => .int
  | _ => .long
theorem nm_S : ∀ a, a < 8 → ∀ b, b < 8 → a ≠ b → (F_S a).2.1 ≠ (F_S b).2.1 := by decide +kernel
theorem tk_S : ∀ k, k < 8 → parseFieldDescriptor (F_S k).2.2.1 = some (ft_S k) := by decide +kernel
theorem in_S : ∀ w ∈ u_ws R_S F_S 8, w ∈ LW := by decide +kernel
def R_H : String := "CoverHouse"
def F_H : u_T := fun k => match k with
  | 0 => ("CoverHouse", "oneSets", "[I", true)
  | 1 => ("CoverHouse", "zeroSets", "[I", true)
  | 2 => ("CoverHouse", "search", "LCoverHouse$Search;", true)
  | 3 => ("CoverHouse", "table", "LCoverHouse$Candidates;", true)
  | 4 => ("CoverHouse", "inputCount", "I", false)
  | 5 => ("CoverHouse", "outputCount", "I", false)
  | 6 => ("CoverHouse", "gathered", "Z", false)
  | _ => ("CoverHouse", "searched", "Z", false)
def ft_H : Nat → FieldType := fun k => match k with
  | 0 => .array .int
  | 1 => .array .int
  | 2 => .object "CoverHouse$Search"
  | 3 => .object "CoverHouse$Candidates"
  | 4 => .int
  | 5 => .int
  | 6 => .boolean
  | _ => .boolean
theorem nm_H : ∀ a, a < 8 → ∀ b, b < 8 → a ≠ b → (F_H a).2.1 ≠ (F_H b).2.1 := by decide +kernel
theorem tk_H : ∀ k, k < 8 → parseFieldDescriptor (F_H k).2.2.1 = some (ft_H k) := by decide +kernel
theorem in_H : ∀ w ∈ u_ws R_H F_H 8, w ∈ LW := by decide +kernel
def R_M : String := "CoverHouseModel"
def F_M : u_T := fun k => match k with
  | 0 => ("CoverHouseModel", "thrown", "I", false)
  | 1 => ("CoverHouseModel", "inputs", "I", false)
  | 2 => ("CoverHouseModel", "outputs", "I", false)
  | 3 => ("CoverHouseModel", "ones", "[I", true)
  | 4 => ("CoverHouseModel", "anything", "[I", true)
  | 5 => ("CoverHouseModel", "many", "I", false)
  | 6 => ("CoverHouseModel", "numbers", "[I", true)
  | 7 => ("CoverHouseModel", "of", "[I", true)
  | 8 => ("CoverHouseModel", "parts", "[I", true)
  | 9 => ("CoverHouseModel", "covers", "[I", true)
  | 10 => ("CoverHouseModel", "covered", "[I", true)
  | 11 => ("CoverHouseModel", "known", "Z", false)
  | 12 => ("CoverHouseModel", "chosen", "I", false)
  | 13 => ("CoverHouseModel", "choice", "[I", true)
  | 14 => ("CoverHouseModel", "there", "[Z", true)
  | 15 => ("CoverHouseModel", "lefts", "[I", true)
  | 16 => ("CoverHouseModel", "rooms", "[I", true)
  | 17 => ("CoverHouseModel", "sizes", "[I", true)
  | 18 => ("CoverHouseModel", "lows", "[J", true)
  | 19 => ("CoverHouseModel", "highs", "[J", true)
  | 20 => ("CoverHouseModel", "kept", "I", false)
  | 21 => ("CoverHouseModel", "waitLeft", "[I", true)
  | 22 => ("CoverHouseModel", "waitPoint", "[I", true)
  | 23 => ("CoverHouseModel", "waitNext", "[I", true)
  | 24 => ("CoverHouseModel", "waitRoom", "[I", true)
  | 25 => ("CoverHouseModel", "bestSize", "[I", true)
  | 26 => ("CoverHouseModel", "bestLow", "[J", true)
  | 27 => ("CoverHouseModel", "bestHigh", "[J", true)
  | 28 => ("CoverHouseModel", "deep", "I", false)
  | 29 => ("CoverHouseModel", "came", "Z", false)
  | 30 => ("CoverHouseModel", "cameSize", "I", false)
  | 31 => ("CoverHouseModel", "cameLow", "J", false)
  | _ => ("CoverHouseModel", "cameHigh", "J", false)
def ft_M : Nat → FieldType := fun k => match k with
  | 0 => .int
  | 1 => .int
  | 2 => .int
  | 3 => .array .int
  | 4 => .array .int
  | 5 => .int
  | 6 => .array .int
  | 7 => .array .int
  | 8 => .array .int
  | 9 => .array .int
  | 10 => .array .int
  | 11 => .boolean
  | 12 => .int
  | 13 => .array .int
  | 14 => .array .boolean
  | 15 => .array .int
  | 16 => .array .int
  | 17 => .array .int
  | 18 => .array .long
  | 19 => .array .long
  | 20 => .int
  | 21 => .array .int
  | 22 => .array .int
  | 23 => .array .int
  | 24 => .array .int
  | 25 => .array .int
  | 26 => .array .long
  | 27 => .array .long
  | 28 => .int
  | 29 => .boolean
  | 30 => .int
  | 31 => .long
  | _ => .long
theorem nm_M : ∀ a, a < 33 → ∀ b, b < 33 → a ≠ b → (F_M a).2.1 ≠ (F_M b).2.1 := by decide +kernel
theorem tk_M : ∀ k, k < 33 → parseFieldDescriptor (F_M k).2.2.1 = some (ft_M k) := by decide +kernel
theorem in_M : ∀ w ∈ u_ws R_M F_M 33, w ∈ LW := by decide +kernel
def R_J : String := "java/lang/Long"
def R_L : String := "CoverHouseLaw"
abbrev vC : List vw_C := [(R_T, F_T, 10), (R_P, F_P, 2), (R_S, F_S, 8), (R_H, F_H, 8), (R_M, F_M, 33)]
abbrev b_H_init : ByteArray := prog_1_method_1_code
def y_H_init : MethodName := ⟨R_H, "<init>", "()V"⟩
def w_H_init : List Cond := .code y_H_init b_H_init 1 none :: LW
abbrev b_H_begin : ByteArray := prog_1_method_2_code
def y_H_begin : MethodName := ⟨R_H, "begin", "(II)V"⟩
def w_H_begin : List Cond := .code y_H_begin b_H_begin 3 none :: LW
abbrev b_H_set : ByteArray := prog_1_method_3_code
def y_H_set : MethodName := ⟨R_H, "set", "(III)V"⟩
def w_H_set : List Cond := .code y_H_set b_H_set 5 none :: LW
abbrev b_H_candidates : ByteArray := prog_1_method_4_code
def y_H_candidates : MethodName := ⟨R_H, "candidates", "()I"⟩
def w_H_candidates : List Cond := .code y_H_candidates b_H_candidates 1 (some .int) :: LW
abbrev b_H_candidate : ByteArray := prog_1_method_5_code
def y_H_candidate : MethodName := ⟨R_H, "candidate", "(II)I"⟩
def w_H_candidate : List Cond := .code y_H_candidate b_H_candidate 3 (some .int) :: LW
abbrev b_H_least : ByteArray := prog_1_method_6_code
def y_H_least : MethodName := ⟨R_H, "least", "()I"⟩
def w_H_least : List Cond := .code y_H_least b_H_least 1 (some .int) :: LW
abbrev b_H_parts : ByteArray := prog_1_method_7_code
def y_H_parts : MethodName := ⟨R_H, "parts", "()I"⟩
def w_H_parts : List Cond := .code y_H_parts b_H_parts 1 (some .int) :: LW
abbrev b_H_chosen : ByteArray := prog_1_method_8_code
def y_H_chosen : MethodName := ⟨R_H, "chosen", "(I)I"⟩
def w_H_chosen : List Cond := .code y_H_chosen b_H_chosen 2 (some .int) :: LW
abbrev b_H_value : ByteArray := prog_1_method_9_code
def y_H_value : MethodName := ⟨R_H, "value", "(II)Z"⟩
def w_H_value : List Cond := .code y_H_value b_H_value 3 (some .boolean) :: LW
abbrev b_H_thinned : ByteArray := prog_1_method_10_code
def y_H_thinned : MethodName := ⟨R_H, "thinned", "(I)I"⟩
def w_H_thinned : List Cond := .code y_H_thinned b_H_thinned 2 (some .int) :: LW
abbrev b_H_restart : ByteArray := prog_1_method_11_code
def y_H_restart : MethodName := ⟨R_H, "restart", "(II)V"⟩
def w_H_restart : List Cond := .code y_H_restart b_H_restart 4 none :: LW
abbrev b_H_forget : ByteArray := prog_1_method_12_code
def y_H_forget : MethodName := ⟨R_H, "forget", "()V"⟩
def w_H_forget : List Cond := .code y_H_forget b_H_forget 1 none :: LW
abbrev b_H_gather : ByteArray := prog_1_method_13_code
def y_H_gather : MethodName := ⟨R_H, "gather", "()V"⟩
def w_H_gather : List Cond := .code y_H_gather b_H_gather 1 none :: LW
abbrev b_H_solve : ByteArray := prog_1_method_14_code
def y_H_solve : MethodName := ⟨R_H, "solve", "()V"⟩
def w_H_solve : List Cond := .code y_H_solve b_H_solve 1 none :: LW
abbrev b_H_isOutput : ByteArray := prog_1_method_15_code
def y_H_isOutput : MethodName := ⟨R_H, "isOutput", "(I)Z"⟩
def w_H_isOutput : List Cond := .code y_H_isOutput b_H_isOutput 2 (some .boolean) :: LW
abbrev b_H_allInputs : ByteArray := prog_1_method_16_code
def y_H_allInputs : MethodName := ⟨R_H, "allInputs", "()I"⟩
def w_H_allInputs : List Cond := .code y_H_allInputs b_H_allInputs 1 (some .int) :: LW
abbrev b_M_init : ByteArray := prog_6_method_1_code
def y_M_init : MethodName := ⟨R_M, "<init>", "()V"⟩
def w_M_init : List Cond := .code y_M_init b_M_init 1 none :: LW
abbrev b_M_thrown : ByteArray := prog_6_method_2_code
def y_M_thrown : MethodName := ⟨R_M, "thrown", "()I"⟩
def w_M_thrown : List Cond := .code y_M_thrown b_M_thrown 1 (some .int) :: LW
abbrev b_M_refuse : ByteArray := prog_6_method_3_code
def y_M_refuse : MethodName := ⟨R_M, "refuse", "(ZZ)Z"⟩
def w_M_refuse : List Cond := .code y_M_refuse b_M_refuse 3 (some .boolean) :: LW
abbrev b_M_in : ByteArray := prog_6_method_4_code
def y_M_in : MethodName := ⟨R_M, "in", "(III)Z"⟩
def w_M_in : List Cond := .code y_M_in b_M_in 3 (some .boolean) :: LW
abbrev b_M_begin : ByteArray := prog_6_method_5_code
def y_M_begin : MethodName := ⟨R_M, "begin", "(II)V"⟩
def w_M_begin : List Cond := .code y_M_begin b_M_begin 4 none :: LW
abbrev b_M_all : ByteArray := prog_6_method_6_code
def y_M_all : MethodName := ⟨R_M, "all", "()I"⟩
def w_M_all : List Cond := .code y_M_all b_M_all 1 (some .int) :: LW
abbrev b_M_set : ByteArray := prog_6_method_7_code
def y_M_set : MethodName := ⟨R_M, "set", "(III)V"⟩
def w_M_set : List Cond := .code y_M_set b_M_set 6 none :: LW
abbrev b_M_digit : ByteArray := prog_6_method_8_code
def y_M_digit : MethodName := ⟨R_M, "digit", "(II)I"⟩
def w_M_digit : List Cond := .code y_M_digit b_M_digit 4 (some .int) :: LW
abbrev b_M_productsOf : ByteArray := prog_6_method_9_code
def y_M_productsOf : MethodName := ⟨R_M, "productsOf", "()I"⟩
def w_M_productsOf : List Cond := .code y_M_productsOf b_M_productsOf 1 (some .int) :: LW
abbrev b_M_onesOf : ByteArray := prog_6_method_10_code
def y_M_onesOf : MethodName := ⟨R_M, "onesOf", "(I)I"⟩
def w_M_onesOf : List Cond := .code y_M_onesOf b_M_onesOf 7 (some .int) :: LW
abbrev b_M_outputsOf : ByteArray := prog_6_method_11_code
def y_M_outputsOf : MethodName := ⟨R_M, "outputsOf", "(I)I"⟩
def w_M_outputsOf : List Cond := .code y_M_outputsOf b_M_outputsOf 5 (some .int) :: LW
abbrev b_M_isCandidate : ByteArray := prog_6_method_12_code
def y_M_isCandidate : MethodName := ⟨R_M, "isCandidate", "(I)Z"⟩
def w_M_isCandidate : List Cond := .code y_M_isCandidate b_M_isCandidate 7 (some .boolean) :: LW
abbrev b_M_partsOf : ByteArray := prog_6_method_13_code
def y_M_partsOf : MethodName := ⟨R_M, "partsOf", "(I)I"⟩
def w_M_partsOf : List Cond := .code y_M_partsOf b_M_partsOf 4 (some .int) :: LW
abbrev b_M_find : ByteArray := prog_6_method_14_code
def y_M_find : MethodName := ⟨R_M, "find", "()V"⟩
def w_M_find : List Cond := .code y_M_find b_M_find 2 none :: LW
abbrev b_M_candidates : ByteArray := prog_6_method_15_code
def y_M_candidates : MethodName := ⟨R_M, "candidates", "()I"⟩
def w_M_candidates : List Cond := .code y_M_candidates b_M_candidates 1 (some .int) :: LW
abbrev b_M_isNeeded : ByteArray := prog_6_method_16_code
def y_M_isNeeded : MethodName := ⟨R_M, "isNeeded", "(I)Z"⟩
def w_M_isNeeded : List Cond := .code y_M_isNeeded b_M_isNeeded 4 (some .boolean) :: LW
abbrev b_M_candidate : ByteArray := prog_6_method_17_code
def y_M_candidate : MethodName := ⟨R_M, "candidate", "(II)I"⟩
def w_M_candidate : List Cond := .code y_M_candidate b_M_candidate 4 (some .int) :: LW
abbrev b_M_placeOf : ByteArray := prog_6_method_18_code
def y_M_placeOf : MethodName := ⟨R_M, "placeOf", "(II)I"⟩
def w_M_placeOf : List Cond := .code y_M_placeOf b_M_placeOf 4 (some .int) :: LW
abbrev b_M_pointsOf : ByteArray := prog_6_method_19_code
def y_M_pointsOf : MethodName := ⟨R_M, "pointsOf", "(I)I"⟩
def w_M_pointsOf : List Cond := .code y_M_pointsOf b_M_pointsOf 3 (some .int) :: LW
abbrev b_M_isHopeless : ByteArray := prog_6_method_20_code
def y_M_isHopeless : MethodName := ⟨R_M, "isHopeless", "(II)Z"⟩
def w_M_isHopeless : List Cond := .code y_M_isHopeless b_M_isHopeless 6 (some .boolean) :: LW
abbrev b_M_pointOf : ByteArray := prog_6_method_21_code
def y_M_pointOf : MethodName := ⟨R_M, "pointOf", "(I)I"⟩
def w_M_pointOf : List Cond := .code y_M_pointOf b_M_pointOf 7 (some .int) :: LW
abbrev b_M_wait : ByteArray := prog_6_method_22_code
def y_M_wait : MethodName := ⟨R_M, "wait", "(II)V"⟩
def w_M_wait : List Cond := .code y_M_wait b_M_wait 3 none :: LW
abbrev b_M_isLess : ByteArray := prog_6_method_23_code
def y_M_isLess : MethodName := ⟨R_M, "isLess", "(JJJJ)Z"⟩
def w_M_isLess : List Cond := .code y_M_isLess b_M_isLess 10 (some .boolean) :: LW
abbrev b_M_better : ByteArray := prog_6_method_24_code
def y_M_better : MethodName := ⟨R_M, "better", "(IIJJ)V"⟩
def w_M_better : List Cond := .code y_M_better b_M_better 14 none :: LW
abbrev b_M_keep : ByteArray := prog_6_method_25_code
def y_M_keep : MethodName := ⟨R_M, "keep", "(IIIJJ)V"⟩
def w_M_keep : List Cond := .code y_M_keep b_M_keep 9 none :: LW
abbrev b_M_work : ByteArray := prog_6_method_26_code
def y_M_work : MethodName := ⟨R_M, "work", "()V"⟩
def w_M_work : List Cond := .code y_M_work b_M_work 6 none :: LW
abbrev b_M_solve : ByteArray := prog_6_method_27_code
def y_M_solve : MethodName := ⟨R_M, "solve", "()V"⟩
def w_M_solve : List Cond := .code y_M_solve b_M_solve 4 none :: LW
abbrev b_M_least : ByteArray := prog_6_method_28_code
def y_M_least : MethodName := ⟨R_M, "least", "()I"⟩
def w_M_least : List Cond := .code y_M_least b_M_least 1 (some .int) :: LW
abbrev b_M_parts : ByteArray := prog_6_method_29_code
def y_M_parts : MethodName := ⟨R_M, "parts", "()I"⟩
def w_M_parts : List Cond := .code y_M_parts b_M_parts 3 (some .int) :: LW
abbrev b_M_chosen : ByteArray := prog_6_method_30_code
def y_M_chosen : MethodName := ⟨R_M, "chosen", "(I)I"⟩
def w_M_chosen : List Cond := .code y_M_chosen b_M_chosen 2 (some .int) :: LW
abbrev b_M_value : ByteArray := prog_6_method_31_code
def y_M_value : MethodName := ⟨R_M, "value", "(II)Z"⟩
def w_M_value : List Cond := .code y_M_value b_M_value 6 (some .boolean) :: LW
abbrev b_M_coveredBy : ByteArray := prog_6_method_32_code
def y_M_coveredBy : MethodName := ⟨R_M, "coveredBy", "(IJJ)I"⟩
def w_M_coveredBy : List Cond := .code y_M_coveredBy b_M_coveredBy 9 (some .int) :: LW
abbrev b_M_thinned : ByteArray := prog_6_method_33_code
def y_M_thinned : MethodName := ⟨R_M, "thinned", "(I)I"⟩
def w_M_thinned : List Cond := .code y_M_thinned b_M_thinned 14 (some .int) :: LW
abbrev b_T_init : ByteArray := prog_2_method_1_code
def y_T_init : MethodName := ⟨R_T, "<init>", "()V"⟩
def w_T_init : List Cond := .code y_T_init b_T_init 1 none :: LW
abbrev b_T_fill : ByteArray := prog_2_method_2_code
def y_T_fill : MethodName := ⟨R_T, "fill", "(II[I[I)V"⟩
def w_T_fill : List Cond := .code y_T_fill b_T_fill 7 none :: LW
abbrev b_T_outputsOf : ByteArray := prog_2_method_3_code
def y_T_outputsOf : MethodName := ⟨R_T, "outputsOf", "(II[I)I"⟩
def w_T_outputsOf : List Cond := .code y_T_outputsOf b_T_outputsOf 5 (some .int) :: LW
abbrev b_T_placesOf : ByteArray := prog_2_method_4_code
def y_T_placesOf : MethodName := ⟨R_T, "placesOf", "([II)J"⟩
def w_T_placesOf : List Cond := .code y_T_placesOf b_T_placesOf 5 (some .long) :: LW
abbrev b_T_isCandidate : ByteArray := prog_2_method_5_code
def y_T_isCandidate : MethodName := ⟨R_T, "isCandidate", "(I)Z"⟩
def w_T_isCandidate : List Cond := .code y_T_isCandidate b_T_isCandidate 5 (some .boolean) :: LW
abbrev b_T_append : ByteArray := prog_2_method_6_code
def y_T_append : MethodName := ⟨R_T, "append", "(I[I)V"⟩
def w_T_append : List Cond := .code y_T_append b_T_append 6 none :: LW
abbrev b_T_findLonelyPlaces : ByteArray := prog_2_method_7_code
def y_T_findLonelyPlaces : MethodName := ⟨R_T, "findLonelyPlaces", "()V"⟩
def w_T_findLonelyPlaces : List Cond := .code y_T_findLonelyPlaces b_T_findLonelyPlaces 6 none :: LW
abbrev b_T_isNeeded : ByteArray := prog_2_method_8_code
def y_T_isNeeded : MethodName := ⟨R_T, "isNeeded", "(I)Z"⟩
def w_T_isNeeded : List Cond := .code y_T_isNeeded b_T_isNeeded 2 (some .boolean) :: LW
abbrev b_T_isCover : ByteArray := prog_2_method_9_code
def y_T_isCover : MethodName := ⟨R_T, "isCover", "(J)Z"⟩
def w_T_isCover : List Cond := .code y_T_isCover b_T_isCover 6 (some .boolean) :: LW
abbrev b_T_countThinned : ByteArray := prog_2_method_10_code
def y_T_countThinned : MethodName := ⟨R_T, "countThinned", "(I)I"⟩
def w_T_countThinned : List Cond := .code y_T_countThinned b_T_countThinned 7 (some .int) :: LW
abbrev b_P_init : ByteArray := prog_3_method_1_code
def y_P_init : MethodName := ⟨R_P, "<init>", "()V"⟩
def w_P_init : List Cond := .code y_P_init b_P_init 2 none :: LW
abbrev b_P_describe : ByteArray := prog_3_method_2_code
def y_P_describe : MethodName := ⟨R_P, "describe", "(I)V"⟩
def w_P_describe : List Cond := .code y_P_describe b_P_describe 7 none :: LW
abbrev b_P_howMany : ByteArray := prog_3_method_3_code
def y_P_howMany : MethodName := ⟨R_P, "howMany", "(I)I"⟩
def w_P_howMany : List Cond := .code y_P_howMany b_P_howMany 1 (some .int) :: LW
abbrev b_P_withoutPart : ByteArray := prog_3_method_4_code
def y_P_withoutPart : MethodName := ⟨R_P, "withoutPart", "(II)I"⟩
def w_P_withoutPart : List Cond := .code y_P_withoutPart b_P_withoutPart 4 (some .int) :: LW
abbrev b_S_init : ByteArray := prog_4_method_1_code
def y_S_init : MethodName := ⟨R_S, "<init>", "()V"⟩
def w_S_init : List Cond := .code y_S_init b_S_init 1 none :: LW
abbrev b_S_findLeast : ByteArray := prog_4_method_2_code
def y_S_findLeast : MethodName := ⟨R_S, "findLeast", "()V"⟩
def w_S_findLeast : List Cond := .code y_S_findLeast b_S_findLeast 2 none :: LW
abbrev b_S_makesOne : ByteArray := prog_4_method_3_code
def y_S_makesOne : MethodName := ⟨R_S, "makesOne", "(II)Z"⟩
def w_S_makesOne : List Cond := .code y_S_makesOne b_S_makesOne 5 (some .boolean) :: LW
abbrev b_S_serversOf : ByteArray := prog_4_method_4_code
def y_S_serversOf : MethodName := ⟨R_S, "serversOf", "(I)J"⟩
def w_S_serversOf : List Cond := .code y_S_serversOf b_S_serversOf 5 (some .long) :: LW
abbrev b_S_listBest : ByteArray := prog_4_method_5_code
def y_S_listBest : MethodName := ⟨R_S, "listBest", "()V"⟩
def w_S_listBest : List Cond := .code y_S_listBest b_S_listBest 2 none :: LW
abbrev b_S_extend : ByteArray := prog_4_method_6_code
def y_S_extend : MethodName := ⟨R_S, "extend", "(IJJIJ)V"⟩
def w_S_extend : List Cond := .code y_S_extend b_S_extend 16 none :: LW
abbrev b_S_keepIfBetter : ByteArray := prog_4_method_7_code
def y_S_keepIfBetter : MethodName := ⟨R_S, "keepIfBetter", "(IJ)V"⟩
def w_S_keepIfBetter : List Cond := .code y_S_keepIfBetter b_S_keepIfBetter 4 none :: LW
abbrev b_S_isBetterThanBest : ByteArray := prog_4_method_8_code
def y_S_isBetterThanBest : MethodName := ⟨R_S, "isBetterThanBest", "(IJ)Z"⟩
def w_S_isBetterThanBest : List Cond := .code y_S_isBetterThanBest b_S_isBetterThanBest 8 (some .boolean) :: LW
abbrev b_S_withoutDominated : ByteArray := prog_4_method_9_code
def y_S_withoutDominated : MethodName := ⟨R_S, "withoutDominated", "(JJ)J"⟩
def w_S_withoutDominated : List Cond := .code y_S_withoutDominated b_S_withoutDominated 8 (some .long) :: LW
abbrev b_S_isDominated : ByteArray := prog_4_method_10_code
def y_S_isDominated : MethodName := ⟨R_S, "isDominated", "(IJJ)Z"⟩
def w_S_isDominated : List Cond := .code y_S_isDominated b_S_isDominated 10 (some .boolean) :: LW
abbrev b_S_weightToCome : ByteArray := prog_4_method_11_code
def y_S_weightToCome : MethodName := ⟨R_S, "weightToCome", "(JJ)I"⟩
def w_S_weightToCome : List Cond := .code y_S_weightToCome b_S_weightToCome 11 (some .int) :: LW
abbrev b_S_lightestOf : ByteArray := prog_4_method_12_code
def y_S_lightestOf : MethodName := ⟨R_S, "lightestOf", "(J)I"⟩
def w_S_lightestOf : List Cond := .code y_S_lightestOf b_S_lightestOf 5 (some .int) :: LW
abbrev b_S_fewestServers : ByteArray := prog_4_method_13_code
def y_S_fewestServers : MethodName := ⟨R_S, "fewestServers", "(JJ)J"⟩
def w_S_fewestServers : List Cond := .code y_S_fewestServers b_S_fewestServers 10 (some .long) :: LW
abbrev b_L_begin : ByteArray := method_3_code
def y_L_begin : MethodName := ⟨R_L, "begin", "(LCoverHouse;II)I"⟩
abbrev b_L_set : ByteArray := method_4_code
def y_L_set : MethodName := ⟨R_L, "set", "(LCoverHouse;III)I"⟩
abbrev b_L_candidate : ByteArray := method_5_code
def y_L_candidate : MethodName := ⟨R_L, "candidate", "(LCoverHouse;II[J)I"⟩
abbrev b_L_chosen : ByteArray := method_6_code
def y_L_chosen : MethodName := ⟨R_L, "chosen", "(LCoverHouse;I[J)I"⟩
abbrev b_L_value : ByteArray := method_7_code
def y_L_value : MethodName := ⟨R_L, "value", "(LCoverHouse;II[J)I"⟩
abbrev b_J_bitCount : ByteArray := prog_10_method_50_code
def y_J_bitCount : MethodName := ⟨R_J, "bitCount", "(J)I"⟩
def w_J_bitCount : List Cond := .code y_J_bitCount b_J_bitCount 2 (some .int) :: LW
end
section
theorem d_T_init_0 : decode b_T_init 0 = .ok (.aload_n 0, 1) := by decide +kernel
theorem d_T_init_1 : decode b_T_init 1 = .ok (.invokespecial 3, 3) := by decide +kernel
theorem d_T_init_4 : decode b_T_init 4 = .ok (.aload_n 0, 1) := by decide +kernel
theorem d_T_init_5 : decode b_T_init 5 = .ok (.bipush 81, 2) := by decide +kernel
theorem d_T_init_7 : decode b_T_init 7 = .ok (.newarray .int, 2) := by decide +kernel
theorem d_T_init_9 : decode b_T_init 9 = .ok (.putfield 9, 3) := by decide +kernel
theorem d_T_init_12 : decode b_T_init 12 = .ok (.aload_n 0, 1) := by decide +kernel
theorem d_T_init_13 : decode b_T_init 13 = .ok (.bipush 81, 2) := by decide +kernel
theorem d_T_init_15 : decode b_T_init 15 = .ok (.newarray .int, 2) := by decide +kernel
theorem d_T_init_17 : decode b_T_init 17 = .ok (.putfield 15, 3) := by decide +kernel
theorem d_T_init_20 : decode b_T_init 20 = .ok (.aload_n 0, 1) := by decide +kernel
theorem d_T_init_21 : decode b_T_init 21 = .ok (.bipush 81, 2) := by decide +kernel
theorem d_T_init_23 : decode b_T_init 23 = .ok (.newarray .int, 2) := by decide +kernel
theorem d_T_init_25 : decode b_T_init 25 = .ok (.putfield 18, 3) := by decide +kernel
theorem d_T_init_28 : decode b_T_init 28 = .ok (.aload_n 0, 1) := by decide +kernel
theorem d_T_init_29 : decode b_T_init 29 = .ok (.bipush 81, 2) := by decide +kernel
theorem d_T_init_31 : decode b_T_init 31 = .ok (.newarray .int, 2) := by decide +kernel
theorem d_T_init_33 : decode b_T_init 33 = .ok (.putfield 21, 3) := by decide +kernel
theorem d_T_init_36 : decode b_T_init 36 = .ok (.aload_n 0, 1) := by decide +kernel
theorem d_T_init_37 : decode b_T_init 37 = .ok (.bipush 81, 2) := by decide +kernel
theorem d_T_init_39 : decode b_T_init 39 = .ok (.newarray .long, 2) := by decide +kernel
theorem d_T_init_41 : decode b_T_init 41 = .ok (.putfield 24, 3) := by decide +kernel
theorem d_T_init_44 : decode b_T_init 44 = .ok (.aload_n 0, 1) := by decide +kernel
theorem d_T_init_45 : decode b_T_init 45 = .ok (.new 28, 3) := by decide +kernel
theorem d_T_init_48 : decode b_T_init 48 = .ok (.dup, 1) := by decide +kernel
theorem d_T_init_49 : decode b_T_init 49 = .ok (.invokespecial 30, 3) := by decide +kernel
theorem d_T_init_52 : decode b_T_init 52 = .ok (.putfield 31, 3) := by decide +kernel
theorem d_T_init_55 : decode b_T_init 55 = .ok (.aload_n 0, 1) := by decide +kernel
theorem d_T_init_56 : decode b_T_init 56 = .ok (.bipush 81, 2) := by decide +kernel
theorem d_T_init_58 : decode b_T_init 58 = .ok (.newarray .int, 2) := by decide +kernel
theorem d_T_init_60 : decode b_T_init 60 = .ok (.putfield 35, 3) := by decide +kernel
theorem d_T_init_63 : decode b_T_init 63 = .ok (.return_, 1) := by decide +kernel
theorem d_T_fill_0 : decode b_T_fill 0 = .ok (.iload_n 1, 1) := by decide +kernel
theorem d_T_fill_1 : decode b_T_fill 1 = .ok (.invokestatic 38, 3) := by decide +kernel
theorem d_T_fill_4 : decode b_T_fill 4 = .ok (.istore 5, 2) := by decide +kernel
theorem d_T_fill_6 : decode b_T_fill 6 = .ok (.iconst 0, 1) := by decide +kernel
theorem d_T_fill_7 : decode b_T_fill 7 = .ok (.istore 6, 2) := by decide +kernel
theorem d_T_fill_9 : decode b_T_fill 9 = .ok (.iload 6, 2) := by decide +kernel
theorem d_T_fill_11 : decode b_T_fill 11 = .ok (.iload 5, 2) := by decide +kernel
theorem d_T_fill_13 : decode b_T_fill 13 = .ok (.if_icmp .ge 39, 3) := by decide +kernel
theorem d_T_fill_16 : decode b_T_fill 16 = .ok (.iload 6, 2) := by decide +kernel
theorem d_T_fill_18 : decode b_T_fill 18 = .ok (.bipush 81, 2) := by decide +kernel
theorem d_T_fill_20 : decode b_T_fill 20 = .ok (.if_icmp .ge 32, 3) := by decide +kernel
theorem d_T_fill_23 : decode b_T_fill 23 = .ok (.aload_n 0, 1) := by decide +kernel
theorem d_T_fill_24 : decode b_T_fill 24 = .ok (.getfield 35, 3) := by decide +kernel
theorem d_T_fill_27 : decode b_T_fill 27 = .ok (.iload 6, 2) := by decide +kernel
theorem d_T_fill_29 : decode b_T_fill 29 = .ok (.aload_n 0, 1) := by decide +kernel
theorem d_T_fill_30 : decode b_T_fill 30 = .ok (.getfield 31, 3) := by decide +kernel
theorem d_T_fill_33 : decode b_T_fill 33 = .ok (.getfield 42, 3) := by decide +kernel
theorem d_T_fill_36 : decode b_T_fill 36 = .ok (.iload 6, 2) := by decide +kernel
theorem d_T_fill_38 : decode b_T_fill 38 = .ok (.iaload, 1) := by decide +kernel
theorem d_T_fill_39 : decode b_T_fill 39 = .ok (.iload_n 2, 1) := by decide +kernel
theorem d_T_fill_40 : decode b_T_fill 40 = .ok (.aload 4, 2) := by decide +kernel
theorem d_T_fill_42 : decode b_T_fill 42 = .ok (.invokestatic 43, 3) := by decide +kernel
theorem d_T_fill_45 : decode b_T_fill 45 = .ok (.iastore, 1) := by decide +kernel
theorem d_T_fill_46 : decode b_T_fill 46 = .ok (.iinc 6 1, 3) := by decide +kernel
theorem d_T_fill_49 : decode b_T_fill 49 = .ok (.goto (-40), 3) := by decide +kernel
theorem d_T_fill_52 : decode b_T_fill 52 = .ok (.aload_n 0, 1) := by decide +kernel
theorem d_T_fill_53 : decode b_T_fill 53 = .ok (.aload_n 3, 1) := by decide +kernel
theorem d_T_fill_54 : decode b_T_fill 54 = .ok (.iconst 3, 1) := by decide +kernel
theorem d_T_fill_55 : decode b_T_fill 55 = .ok (.invokestatic 47, 3) := by decide +kernel
theorem d_T_fill_58 : decode b_T_fill 58 = .ok (.putfield 51, 3) := by decide +kernel
theorem d_T_fill_61 : decode b_T_fill 61 = .ok (.aload_n 0, 1) := by decide +kernel
theorem d_T_fill_62 : decode b_T_fill 62 = .ok (.iconst 0, 1) := by decide +kernel
theorem d_T_fill_63 : decode b_T_fill 63 = .ok (.putfield 55, 3) := by decide +kernel
theorem d_T_fill_66 : decode b_T_fill 66 = .ok (.iconst 0, 1) := by decide +kernel
theorem d_T_fill_67 : decode b_T_fill 67 = .ok (.istore 6, 2) := by decide +kernel
theorem d_T_fill_69 : decode b_T_fill 69 = .ok (.iload 6, 2) := by decide +kernel
theorem d_T_fill_71 : decode b_T_fill 71 = .ok (.iload 5, 2) := by decide +kernel
theorem d_T_fill_73 : decode b_T_fill 73 = .ok (.if_icmp .ge 41, 3) := by decide +kernel
theorem d_T_fill_76 : decode b_T_fill 76 = .ok (.iload 6, 2) := by decide +kernel
theorem d_T_fill_78 : decode b_T_fill 78 = .ok (.bipush 81, 2) := by decide +kernel
theorem d_T_fill_80 : decode b_T_fill 80 = .ok (.if_icmp .ge 34, 3) := by decide +kernel
theorem d_T_fill_83 : decode b_T_fill 83 = .ok (.aload_n 0, 1) := by decide +kernel
theorem d_T_fill_84 : decode b_T_fill 84 = .ok (.getfield 55, 3) := by decide +kernel
theorem d_T_fill_87 : decode b_T_fill 87 = .ok (.bipush 81, 2) := by decide +kernel
theorem d_T_fill_89 : decode b_T_fill 89 = .ok (.if_icmp .ge 19, 3) := by decide +kernel
theorem d_T_fill_92 : decode b_T_fill 92 = .ok (.aload_n 0, 1) := by decide +kernel
theorem d_T_fill_93 : decode b_T_fill 93 = .ok (.iload 6, 2) := by decide +kernel
theorem d_T_fill_95 : decode b_T_fill 95 = .ok (.invokevirtual 59, 3) := by decide +kernel
theorem d_T_fill_98 : decode b_T_fill 98 = .ok (.ifCond .eq 10, 3) := by decide +kernel
theorem d_T_fill_101 : decode b_T_fill 101 = .ok (.aload_n 0, 1) := by decide +kernel
theorem d_T_fill_102 : decode b_T_fill 102 = .ok (.iload 6, 2) := by decide +kernel
theorem d_T_fill_104 : decode b_T_fill 104 = .ok (.aload_n 3, 1) := by decide +kernel
theorem d_T_fill_105 : decode b_T_fill 105 = .ok (.invokevirtual 63, 3) := by decide +kernel
theorem d_T_fill_108 : decode b_T_fill 108 = .ok (.iinc 6 1, 3) := by decide +kernel
theorem d_T_fill_111 : decode b_T_fill 111 = .ok (.goto (-42), 3) := by decide +kernel
theorem d_T_fill_114 : decode b_T_fill 114 = .ok (.aload_n 0, 1) := by decide +kernel
theorem d_T_fill_115 : decode b_T_fill 115 = .ok (.invokevirtual 67, 3) := by decide +kernel
theorem d_T_fill_118 : decode b_T_fill 118 = .ok (.return_, 1) := by decide +kernel
theorem d_T_outputsOf_0 : decode b_T_outputsOf 0 = .ok (.iconst 0, 1) := by decide +kernel
theorem d_T_outputsOf_1 : decode b_T_outputsOf 1 = .ok (.istore_n 3, 1) := by decide +kernel
theorem d_T_outputsOf_2 : decode b_T_outputsOf 2 = .ok (.iconst 0, 1) := by decide +kernel
theorem d_T_outputsOf_3 : decode b_T_outputsOf 3 = .ok (.istore 4, 2) := by decide +kernel
theorem d_T_outputsOf_5 : decode b_T_outputsOf 5 = .ok (.iload 4, 2) := by decide +kernel
theorem d_T_outputsOf_7 : decode b_T_outputsOf 7 = .ok (.iload_n 1, 1) := by decide +kernel
theorem d_T_outputsOf_8 : decode b_T_outputsOf 8 = .ok (.if_icmp .ge 32, 3) := by decide +kernel
theorem d_T_outputsOf_11 : decode b_T_outputsOf 11 = .ok (.iload 4, 2) := by decide +kernel
theorem d_T_outputsOf_13 : decode b_T_outputsOf 13 = .ok (.aload_n 2, 1) := by decide +kernel
theorem d_T_outputsOf_14 : decode b_T_outputsOf 14 = .ok (.arraylength, 1) := by decide +kernel
theorem d_T_outputsOf_15 : decode b_T_outputsOf 15 = .ok (.if_icmp .ge 25, 3) := by decide +kernel
theorem d_T_outputsOf_18 : decode b_T_outputsOf 18 = .ok (.iload_n 0, 1) := by decide +kernel
theorem d_T_outputsOf_19 : decode b_T_outputsOf 19 = .ok (.aload_n 2, 1) := by decide +kernel
theorem d_T_outputsOf_20 : decode b_T_outputsOf 20 = .ok (.iload 4, 2) := by decide +kernel
theorem d_T_outputsOf_22 : decode b_T_outputsOf 22 = .ok (.iaload, 1) := by decide +kernel
theorem d_T_outputsOf_23 : decode b_T_outputsOf 23 = .ok (.iand, 1) := by decide +kernel
theorem d_T_outputsOf_24 : decode b_T_outputsOf 24 = .ok (.ifCond .ne 10, 3) := by decide +kernel
theorem d_T_outputsOf_27 : decode b_T_outputsOf 27 = .ok (.iload_n 3, 1) := by decide +kernel
theorem d_T_outputsOf_28 : decode b_T_outputsOf 28 = .ok (.iconst 1, 1) := by decide +kernel
theorem d_T_outputsOf_29 : decode b_T_outputsOf 29 = .ok (.iload 4, 2) := by decide +kernel
theorem d_T_outputsOf_31 : decode b_T_outputsOf 31 = .ok (.ishl, 1) := by decide +kernel
theorem d_T_outputsOf_32 : decode b_T_outputsOf 32 = .ok (.ior, 1) := by decide +kernel
theorem d_T_outputsOf_33 : decode b_T_outputsOf 33 = .ok (.istore_n 3, 1) := by decide +kernel
theorem d_T_outputsOf_34 : decode b_T_outputsOf 34 = .ok (.iinc 4 1, 3) := by decide +kernel
theorem d_T_outputsOf_37 : decode b_T_outputsOf 37 = .ok (.goto (-32), 3) := by decide +kernel
theorem d_T_outputsOf_40 : decode b_T_outputsOf 40 = .ok (.iload_n 3, 1) := by decide +kernel
theorem d_T_outputsOf_41 : decode b_T_outputsOf 41 = .ok (.ireturn, 1) := by decide +kernel
theorem d_T_placesOf_0 : decode b_T_placesOf 0 = .ok (.lconst 0, 1) := by decide +kernel
theorem d_T_placesOf_1 : decode b_T_placesOf 1 = .ok (.lstore_n 2, 1) := by decide +kernel
theorem d_T_placesOf_2 : decode b_T_placesOf 2 = .ok (.iconst 0, 1) := by decide +kernel
theorem d_T_placesOf_3 : decode b_T_placesOf 3 = .ok (.istore 4, 2) := by decide +kernel
theorem d_T_placesOf_5 : decode b_T_placesOf 5 = .ok (.iload 4, 2) := by decide +kernel
theorem d_T_placesOf_7 : decode b_T_placesOf 7 = .ok (.aload_n 0, 1) := by decide +kernel
theorem d_T_placesOf_8 : decode b_T_placesOf 8 = .ok (.arraylength, 1) := by decide +kernel
theorem d_T_placesOf_9 : decode b_T_placesOf 9 = .ok (.if_icmp .ge 32, 3) := by decide +kernel
theorem d_T_placesOf_12 : decode b_T_placesOf 12 = .ok (.iload_n 1, 1) := by decide +kernel
theorem d_T_placesOf_13 : decode b_T_placesOf 13 = .ok (.iload 4, 2) := by decide +kernel
theorem d_T_placesOf_15 : decode b_T_placesOf 15 = .ok (.ishr, 1) := by decide +kernel
theorem d_T_placesOf_16 : decode b_T_placesOf 16 = .ok (.iconst 1, 1) := by decide +kernel
theorem d_T_placesOf_17 : decode b_T_placesOf 17 = .ok (.iand, 1) := by decide +kernel
theorem d_T_placesOf_18 : decode b_T_placesOf 18 = .ok (.ifCond .eq 17, 3) := by decide +kernel
theorem d_T_placesOf_21 : decode b_T_placesOf 21 = .ok (.lload_n 2, 1) := by decide +kernel
theorem d_T_placesOf_22 : decode b_T_placesOf 22 = .ok (.aload_n 0, 1) := by decide +kernel
theorem d_T_placesOf_23 : decode b_T_placesOf 23 = .ok (.iload 4, 2) := by decide +kernel
theorem d_T_placesOf_25 : decode b_T_placesOf 25 = .ok (.iaload, 1) := by decide +kernel
theorem d_T_placesOf_26 : decode b_T_placesOf 26 = .ok (.i2l, 1) := by decide +kernel
theorem d_T_placesOf_27 : decode b_T_placesOf 27 = .ok (.bipush 16, 2) := by decide +kernel
theorem d_T_placesOf_29 : decode b_T_placesOf 29 = .ok (.iload 4, 2) := by decide +kernel
theorem d_T_placesOf_31 : decode b_T_placesOf 31 = .ok (.imul, 1) := by decide +kernel
theorem d_T_placesOf_32 : decode b_T_placesOf 32 = .ok (.lshl, 1) := by decide +kernel
theorem d_T_placesOf_33 : decode b_T_placesOf 33 = .ok (.lor, 1) := by decide +kernel
theorem d_T_placesOf_34 : decode b_T_placesOf 34 = .ok (.lstore_n 2, 1) := by decide +kernel
theorem d_T_placesOf_35 : decode b_T_placesOf 35 = .ok (.iinc 4 1, 3) := by decide +kernel
theorem d_T_placesOf_38 : decode b_T_placesOf 38 = .ok (.goto (-33), 3) := by decide +kernel
theorem d_T_placesOf_41 : decode b_T_placesOf 41 = .ok (.lload_n 2, 1) := by decide +kernel
theorem d_T_placesOf_42 : decode b_T_placesOf 42 = .ok (.lreturn, 1) := by decide +kernel
theorem d_T_isCandidate_0 : decode b_T_isCandidate 0 = .ok (.aload_n 0, 1) := by decide +kernel
theorem d_T_isCandidate_1 : decode b_T_isCandidate 1 = .ok (.getfield 35, 3) := by decide +kernel
theorem d_T_isCandidate_4 : decode b_T_isCandidate 4 = .ok (.iload_n 1, 1) := by decide +kernel
theorem d_T_isCandidate_5 : decode b_T_isCandidate 5 = .ok (.iaload, 1) := by decide +kernel
theorem d_T_isCandidate_6 : decode b_T_isCandidate 6 = .ok (.istore_n 2, 1) := by decide +kernel
theorem d_T_isCandidate_7 : decode b_T_isCandidate 7 = .ok (.iload_n 2, 1) := by decide +kernel
theorem d_T_isCandidate_8 : decode b_T_isCandidate 8 = .ok (.ifCond .ne 5, 3) := by decide +kernel
theorem d_T_isCandidate_11 : decode b_T_isCandidate 11 = .ok (.iconst 0, 1) := by decide +kernel
theorem d_T_isCandidate_12 : decode b_T_isCandidate 12 = .ok (.ireturn, 1) := by decide +kernel
theorem d_T_isCandidate_13 : decode b_T_isCandidate 13 = .ok (.iconst 0, 1) := by decide +kernel
theorem d_T_isCandidate_14 : decode b_T_isCandidate 14 = .ok (.istore_n 3, 1) := by decide +kernel
theorem d_T_isCandidate_15 : decode b_T_isCandidate 15 = .ok (.iload_n 3, 1) := by decide +kernel
theorem d_T_isCandidate_16 : decode b_T_isCandidate 16 = .ok (.iconst 4, 1) := by decide +kernel
theorem d_T_isCandidate_17 : decode b_T_isCandidate 17 = .ok (.if_icmp .ge 40, 3) := by decide +kernel
theorem d_T_isCandidate_20 : decode b_T_isCandidate 20 = .ok (.iload_n 1, 1) := by decide +kernel
theorem d_T_isCandidate_21 : decode b_T_isCandidate 21 = .ok (.iload_n 3, 1) := by decide +kernel
theorem d_T_isCandidate_22 : decode b_T_isCandidate 22 = .ok (.invokestatic 70, 3) := by decide +kernel
theorem d_T_isCandidate_25 : decode b_T_isCandidate 25 = .ok (.istore 4, 2) := by decide +kernel
theorem d_T_isCandidate_27 : decode b_T_isCandidate 27 = .ok (.iload 4, 2) := by decide +kernel
theorem d_T_isCandidate_29 : decode b_T_isCandidate 29 = .ok (.iload_n 1, 1) := by decide +kernel
theorem d_T_isCandidate_30 : decode b_T_isCandidate 30 = .ok (.if_icmp .eq 21, 3) := by decide +kernel
theorem d_T_isCandidate_33 : decode b_T_isCandidate 33 = .ok (.iload 4, 2) := by decide +kernel
theorem d_T_isCandidate_35 : decode b_T_isCandidate 35 = .ok (.ifCond .lt 16, 3) := by decide +kernel
theorem d_T_isCandidate_38 : decode b_T_isCandidate 38 = .ok (.aload_n 0, 1) := by decide +kernel
theorem d_T_isCandidate_39 : decode b_T_isCandidate 39 = .ok (.getfield 35, 3) := by decide +kernel
theorem d_T_isCandidate_42 : decode b_T_isCandidate 42 = .ok (.iload 4, 2) := by decide +kernel
theorem d_T_isCandidate_44 : decode b_T_isCandidate 44 = .ok (.iaload, 1) := by decide +kernel
theorem d_T_isCandidate_45 : decode b_T_isCandidate 45 = .ok (.iload_n 2, 1) := by decide +kernel
theorem d_T_isCandidate_46 : decode b_T_isCandidate 46 = .ok (.if_icmp .ne 5, 3) := by decide +kernel
theorem d_T_isCandidate_49 : decode b_T_isCandidate 49 = .ok (.iconst 0, 1) := by decide +kernel
theorem d_T_isCandidate_50 : decode b_T_isCandidate 50 = .ok (.ireturn, 1) := by decide +kernel
theorem d_T_isCandidate_51 : decode b_T_isCandidate 51 = .ok (.iinc 3 1, 3) := by decide +kernel
theorem d_T_isCandidate_54 : decode b_T_isCandidate 54 = .ok (.goto (-39), 3) := by decide +kernel
theorem d_T_isCandidate_57 : decode b_T_isCandidate 57 = .ok (.iconst 1, 1) := by decide +kernel
theorem d_T_isCandidate_58 : decode b_T_isCandidate 58 = .ok (.ireturn, 1) := by decide +kernel
theorem d_T_append_0 : decode b_T_append 0 = .ok (.aload_n 0, 1) := by decide +kernel
theorem d_T_append_1 : decode b_T_append 1 = .ok (.getfield 31, 3) := by decide +kernel
theorem d_T_append_4 : decode b_T_append 4 = .ok (.getfield 42, 3) := by decide +kernel
theorem d_T_append_7 : decode b_T_append 7 = .ok (.iload_n 1, 1) := by decide +kernel
theorem d_T_append_8 : decode b_T_append 8 = .ok (.iaload, 1) := by decide +kernel
theorem d_T_append_9 : decode b_T_append 9 = .ok (.istore_n 3, 1) := by decide +kernel
theorem d_T_append_10 : decode b_T_append 10 = .ok (.aload_n 0, 1) := by decide +kernel
theorem d_T_append_11 : decode b_T_append 11 = .ok (.getfield 9, 3) := by decide +kernel
theorem d_T_append_14 : decode b_T_append 14 = .ok (.aload_n 0, 1) := by decide +kernel
theorem d_T_append_15 : decode b_T_append 15 = .ok (.getfield 55, 3) := by decide +kernel
theorem d_T_append_18 : decode b_T_append 18 = .ok (.iload_n 1, 1) := by decide +kernel
theorem d_T_append_19 : decode b_T_append 19 = .ok (.iastore, 1) := by decide +kernel
theorem d_T_append_20 : decode b_T_append 20 = .ok (.aload_n 0, 1) := by decide +kernel
theorem d_T_append_21 : decode b_T_append 21 = .ok (.getfield 15, 3) := by decide +kernel
theorem d_T_append_24 : decode b_T_append 24 = .ok (.aload_n 0, 1) := by decide +kernel
theorem d_T_append_25 : decode b_T_append 25 = .ok (.getfield 55, 3) := by decide +kernel
theorem d_T_append_28 : decode b_T_append 28 = .ok (.aload_n 0, 1) := by decide +kernel
theorem d_T_append_29 : decode b_T_append 29 = .ok (.getfield 35, 3) := by decide +kernel
theorem d_T_append_32 : decode b_T_append 32 = .ok (.iload_n 1, 1) := by decide +kernel
theorem d_T_append_33 : decode b_T_append 33 = .ok (.iaload, 1) := by decide +kernel
theorem d_T_append_34 : decode b_T_append 34 = .ok (.iastore, 1) := by decide +kernel
theorem d_T_append_35 : decode b_T_append 35 = .ok (.aload_n 0, 1) := by decide +kernel
theorem d_T_append_36 : decode b_T_append 36 = .ok (.getfield 18, 3) := by decide +kernel
theorem d_T_append_39 : decode b_T_append 39 = .ok (.aload_n 0, 1) := by decide +kernel
theorem d_T_append_40 : decode b_T_append 40 = .ok (.getfield 55, 3) := by decide +kernel
theorem d_T_append_43 : decode b_T_append 43 = .ok (.aload_n 0, 1) := by decide +kernel
theorem d_T_append_44 : decode b_T_append 44 = .ok (.getfield 31, 3) := by decide +kernel
theorem d_T_append_47 : decode b_T_append 47 = .ok (.getfield 74, 3) := by decide +kernel
theorem d_T_append_50 : decode b_T_append 50 = .ok (.iload_n 1, 1) := by decide +kernel
theorem d_T_append_51 : decode b_T_append 51 = .ok (.iaload, 1) := by decide +kernel
theorem d_T_append_52 : decode b_T_append 52 = .ok (.iastore, 1) := by decide +kernel
theorem d_T_append_53 : decode b_T_append 53 = .ok (.aload_n 0, 1) := by decide +kernel
theorem d_T_append_54 : decode b_T_append 54 = .ok (.getfield 21, 3) := by decide +kernel
theorem d_T_append_57 : decode b_T_append 57 = .ok (.aload_n 0, 1) := by decide +kernel
theorem d_T_append_58 : decode b_T_append 58 = .ok (.getfield 55, 3) := by decide +kernel
theorem d_T_append_61 : decode b_T_append 61 = .ok (.iload_n 3, 1) := by decide +kernel
theorem d_T_append_62 : decode b_T_append 62 = .ok (.iastore, 1) := by decide +kernel
theorem d_T_append_63 : decode b_T_append 63 = .ok (.iload_n 3, 1) := by decide +kernel
theorem d_T_append_64 : decode b_T_append 64 = .ok (.i2l, 1) := by decide +kernel
theorem d_T_append_65 : decode b_T_append 65 = .ok (.bipush 16, 2) := by decide +kernel
theorem d_T_append_67 : decode b_T_append 67 = .ok (.lshl, 1) := by decide +kernel
theorem d_T_append_68 : decode b_T_append 68 = .ok (.iload_n 3, 1) := by decide +kernel
theorem d_T_append_69 : decode b_T_append 69 = .ok (.i2l, 1) := by decide +kernel
theorem d_T_append_70 : decode b_T_append 70 = .ok (.lor, 1) := by decide +kernel
theorem d_T_append_71 : decode b_T_append 71 = .ok (.lstore 4, 2) := by decide +kernel
theorem d_T_append_73 : decode b_T_append 73 = .ok (.aload_n 0, 1) := by decide +kernel
theorem d_T_append_74 : decode b_T_append 74 = .ok (.getfield 24, 3) := by decide +kernel
theorem d_T_append_77 : decode b_T_append 77 = .ok (.aload_n 0, 1) := by decide +kernel
theorem d_T_append_78 : decode b_T_append 78 = .ok (.getfield 55, 3) := by decide +kernel
theorem d_T_append_81 : decode b_T_append 81 = .ok (.lload 4, 2) := by decide +kernel
theorem d_T_append_83 : decode b_T_append 83 = .ok (.aload_n 2, 1) := by decide +kernel
theorem d_T_append_84 : decode b_T_append 84 = .ok (.aload_n 0, 1) := by decide +kernel
theorem d_T_append_85 : decode b_T_append 85 = .ok (.getfield 15, 3) := by decide +kernel
theorem d_T_append_88 : decode b_T_append 88 = .ok (.aload_n 0, 1) := by decide +kernel
theorem d_T_append_89 : decode b_T_append 89 = .ok (.getfield 55, 3) := by decide +kernel
theorem d_T_append_92 : decode b_T_append 92 = .ok (.iaload, 1) := by decide +kernel
theorem d_T_append_93 : decode b_T_append 93 = .ok (.invokestatic 47, 3) := by decide +kernel
theorem d_T_append_96 : decode b_T_append 96 = .ok (.land, 1) := by decide +kernel
theorem d_T_append_97 : decode b_T_append 97 = .ok (.lastore, 1) := by decide +kernel
theorem d_T_append_98 : decode b_T_append 98 = .ok (.aload_n 0, 1) := by decide +kernel
theorem d_T_append_99 : decode b_T_append 99 = .ok (.dup, 1) := by decide +kernel
theorem d_T_append_100 : decode b_T_append 100 = .ok (.getfield 55, 3) := by decide +kernel
theorem d_T_append_103 : decode b_T_append 103 = .ok (.iconst 1, 1) := by decide +kernel
theorem d_T_append_104 : decode b_T_append 104 = .ok (.iadd, 1) := by decide +kernel
theorem d_T_append_105 : decode b_T_append 105 = .ok (.putfield 55, 3) := by decide +kernel
theorem d_T_append_108 : decode b_T_append 108 = .ok (.return_, 1) := by decide +kernel
theorem d_T_findLonelyPlaces_0 : decode b_T_findLonelyPlaces 0 = .ok (.lconst 0, 1) := by decide +kernel
theorem d_T_findLonelyPlaces_1 : decode b_T_findLonelyPlaces 1 = .ok (.lstore_n 1, 1) := by decide +kernel
theorem d_T_findLonelyPlaces_2 : decode b_T_findLonelyPlaces 2 = .ok (.lconst 0, 1) := by decide +kernel
theorem d_T_findLonelyPlaces_3 : decode b_T_findLonelyPlaces 3 = .ok (.lstore_n 3, 1) := by decide +kernel
theorem d_T_findLonelyPlaces_4 : decode b_T_findLonelyPlaces 4 = .ok (.iconst 0, 1) := by decide +kernel
theorem d_T_findLonelyPlaces_5 : decode b_T_findLonelyPlaces 5 = .ok (.istore 5, 2) := by decide +kernel
theorem d_T_findLonelyPlaces_7 : decode b_T_findLonelyPlaces 7 = .ok (.iload 5, 2) := by decide +kernel
theorem d_T_findLonelyPlaces_9 : decode b_T_findLonelyPlaces 9 = .ok (.aload_n 0, 1) := by decide +kernel
theorem d_T_findLonelyPlaces_10 : decode b_T_findLonelyPlaces 10 = .ok (.getfield 55, 3) := by decide +kernel
theorem d_T_findLonelyPlaces_13 : decode b_T_findLonelyPlaces 13 = .ok (.if_icmp .ge 31, 3) := by decide +kernel
theorem d_T_findLonelyPlaces_16 : decode b_T_findLonelyPlaces 16 = .ok (.lload_n 3, 1) := by decide +kernel
theorem d_T_findLonelyPlaces_17 : decode b_T_findLonelyPlaces 17 = .ok (.lload_n 1, 1) := by decide +kernel
theorem d_T_findLonelyPlaces_18 : decode b_T_findLonelyPlaces 18 = .ok (.aload_n 0, 1) := by decide +kernel
theorem d_T_findLonelyPlaces_19 : decode b_T_findLonelyPlaces 19 = .ok (.getfield 24, 3) := by decide +kernel
theorem d_T_findLonelyPlaces_22 : decode b_T_findLonelyPlaces 22 = .ok (.iload 5, 2) := by decide +kernel
theorem d_T_findLonelyPlaces_24 : decode b_T_findLonelyPlaces 24 = .ok (.laload, 1) := by decide +kernel
theorem d_T_findLonelyPlaces_25 : decode b_T_findLonelyPlaces 25 = .ok (.land, 1) := by decide +kernel
theorem d_T_findLonelyPlaces_26 : decode b_T_findLonelyPlaces 26 = .ok (.lor, 1) := by decide +kernel
theorem d_T_findLonelyPlaces_27 : decode b_T_findLonelyPlaces 27 = .ok (.lstore_n 3, 1) := by decide +kernel
theorem d_T_findLonelyPlaces_28 : decode b_T_findLonelyPlaces 28 = .ok (.lload_n 1, 1) := by decide +kernel
theorem d_T_findLonelyPlaces_29 : decode b_T_findLonelyPlaces 29 = .ok (.aload_n 0, 1) := by decide +kernel
theorem d_T_findLonelyPlaces_30 : decode b_T_findLonelyPlaces 30 = .ok (.getfield 24, 3) := by decide +kernel
theorem d_T_findLonelyPlaces_33 : decode b_T_findLonelyPlaces 33 = .ok (.iload 5, 2) := by decide +kernel
theorem d_T_findLonelyPlaces_35 : decode b_T_findLonelyPlaces 35 = .ok (.laload, 1) := by decide +kernel
theorem d_T_findLonelyPlaces_36 : decode b_T_findLonelyPlaces 36 = .ok (.lor, 1) := by decide +kernel
theorem d_T_findLonelyPlaces_37 : decode b_T_findLonelyPlaces 37 = .ok (.lstore_n 1, 1) := by decide +kernel
theorem d_T_findLonelyPlaces_38 : decode b_T_findLonelyPlaces 38 = .ok (.iinc 5 1, 3) := by decide +kernel
theorem d_T_findLonelyPlaces_41 : decode b_T_findLonelyPlaces 41 = .ok (.goto (-34), 3) := by decide +kernel
theorem d_T_findLonelyPlaces_44 : decode b_T_findLonelyPlaces 44 = .ok (.aload_n 0, 1) := by decide +kernel
theorem d_T_findLonelyPlaces_45 : decode b_T_findLonelyPlaces 45 = .ok (.lload_n 1, 1) := by decide +kernel
theorem d_T_findLonelyPlaces_46 : decode b_T_findLonelyPlaces 46 = .ok (.lload_n 3, 1) := by decide +kernel
theorem d_T_findLonelyPlaces_47 : decode b_T_findLonelyPlaces 47 = .ok (.ldc2_w 75, 3) := by decide +kernel
theorem d_T_findLonelyPlaces_50 : decode b_T_findLonelyPlaces 50 = .ok (.lxor, 1) := by decide +kernel
theorem d_T_findLonelyPlaces_51 : decode b_T_findLonelyPlaces 51 = .ok (.land, 1) := by decide +kernel
theorem d_T_findLonelyPlaces_52 : decode b_T_findLonelyPlaces 52 = .ok (.putfield 77, 3) := by decide +kernel
theorem d_T_findLonelyPlaces_55 : decode b_T_findLonelyPlaces 55 = .ok (.return_, 1) := by decide +kernel
theorem d_T_isNeeded_0 : decode b_T_isNeeded 0 = .ok (.iload_n 1, 1) := by decide +kernel
theorem d_T_isNeeded_1 : decode b_T_isNeeded 1 = .ok (.ifCond .lt 31, 3) := by decide +kernel
theorem d_T_isNeeded_4 : decode b_T_isNeeded 4 = .ok (.iload_n 1, 1) := by decide +kernel
theorem d_T_isNeeded_5 : decode b_T_isNeeded 5 = .ok (.aload_n 0, 1) := by decide +kernel
theorem d_T_isNeeded_6 : decode b_T_isNeeded 6 = .ok (.getfield 55, 3) := by decide +kernel
theorem d_T_isNeeded_9 : decode b_T_isNeeded 9 = .ok (.if_icmp .ge 23, 3) := by decide +kernel
theorem d_T_isNeeded_12 : decode b_T_isNeeded 12 = .ok (.aload_n 0, 1) := by decide +kernel
theorem d_T_isNeeded_13 : decode b_T_isNeeded 13 = .ok (.getfield 24, 3) := by decide +kernel
theorem d_T_isNeeded_16 : decode b_T_isNeeded 16 = .ok (.iload_n 1, 1) := by decide +kernel
theorem d_T_isNeeded_17 : decode b_T_isNeeded 17 = .ok (.laload, 1) := by decide +kernel
theorem d_T_isNeeded_18 : decode b_T_isNeeded 18 = .ok (.aload_n 0, 1) := by decide +kernel
theorem d_T_isNeeded_19 : decode b_T_isNeeded 19 = .ok (.getfield 77, 3) := by decide +kernel
theorem d_T_isNeeded_22 : decode b_T_isNeeded 22 = .ok (.land, 1) := by decide +kernel
theorem d_T_isNeeded_23 : decode b_T_isNeeded 23 = .ok (.lconst 0, 1) := by decide +kernel
theorem d_T_isNeeded_24 : decode b_T_isNeeded 24 = .ok (.lcmp, 1) := by decide +kernel
theorem d_T_isNeeded_25 : decode b_T_isNeeded 25 = .ok (.ifCond .eq 7, 3) := by decide +kernel
theorem d_T_isNeeded_28 : decode b_T_isNeeded 28 = .ok (.iconst 1, 1) := by decide +kernel
theorem d_T_isNeeded_29 : decode b_T_isNeeded 29 = .ok (.goto 4, 3) := by decide +kernel
theorem d_T_isNeeded_32 : decode b_T_isNeeded 32 = .ok (.iconst 0, 1) := by decide +kernel
theorem d_T_isNeeded_33 : decode b_T_isNeeded 33 = .ok (.ireturn, 1) := by decide +kernel
theorem d_T_isCover_0 : decode b_T_isCover 0 = .ok (.lconst 0, 1) := by decide +kernel
theorem d_T_isCover_1 : decode b_T_isCover 1 = .ok (.lstore_n 3, 1) := by decide +kernel
theorem d_T_isCover_2 : decode b_T_isCover 2 = .ok (.iconst 0, 1) := by decide +kernel
theorem d_T_isCover_3 : decode b_T_isCover 3 = .ok (.istore 5, 2) := by decide +kernel
theorem d_T_isCover_5 : decode b_T_isCover 5 = .ok (.iload 5, 2) := by decide +kernel
theorem d_T_isCover_7 : decode b_T_isCover 7 = .ok (.aload_n 0, 1) := by decide +kernel
theorem d_T_isCover_8 : decode b_T_isCover 8 = .ok (.getfield 55, 3) := by decide +kernel
theorem d_T_isCover_11 : decode b_T_isCover 11 = .ok (.if_icmp .ge 30, 3) := by decide +kernel
theorem d_T_isCover_14 : decode b_T_isCover 14 = .ok (.lload_n 1, 1) := by decide +kernel
theorem d_T_isCover_15 : decode b_T_isCover 15 = .ok (.iload 5, 2) := by decide +kernel
theorem d_T_isCover_17 : decode b_T_isCover 17 = .ok (.lshr, 1) := by decide +kernel
theorem d_T_isCover_18 : decode b_T_isCover 18 = .ok (.lconst 1, 1) := by decide +kernel
theorem d_T_isCover_19 : decode b_T_isCover 19 = .ok (.land, 1) := by decide +kernel
theorem d_T_isCover_20 : decode b_T_isCover 20 = .ok (.lconst 0, 1) := by decide +kernel
theorem d_T_isCover_21 : decode b_T_isCover 21 = .ok (.lcmp, 1) := by decide +kernel
theorem d_T_isCover_22 : decode b_T_isCover 22 = .ok (.ifCond .eq 13, 3) := by decide +kernel
theorem d_T_isCover_25 : decode b_T_isCover 25 = .ok (.lload_n 3, 1) := by decide +kernel
theorem d_T_isCover_26 : decode b_T_isCover 26 = .ok (.aload_n 0, 1) := by decide +kernel
theorem d_T_isCover_27 : decode b_T_isCover 27 = .ok (.getfield 24, 3) := by decide +kernel
theorem d_T_isCover_30 : decode b_T_isCover 30 = .ok (.iload 5, 2) := by decide +kernel
theorem d_T_isCover_32 : decode b_T_isCover 32 = .ok (.laload, 1) := by decide +kernel
theorem d_T_isCover_33 : decode b_T_isCover 33 = .ok (.lor, 1) := by decide +kernel
theorem d_T_isCover_34 : decode b_T_isCover 34 = .ok (.lstore_n 3, 1) := by decide +kernel
theorem d_T_isCover_35 : decode b_T_isCover 35 = .ok (.iinc 5 1, 3) := by decide +kernel
theorem d_T_isCover_38 : decode b_T_isCover 38 = .ok (.goto (-33), 3) := by decide +kernel
theorem d_T_isCover_41 : decode b_T_isCover 41 = .ok (.lload_n 3, 1) := by decide +kernel
theorem d_T_isCover_42 : decode b_T_isCover 42 = .ok (.aload_n 0, 1) := by decide +kernel
theorem d_T_isCover_43 : decode b_T_isCover 43 = .ok (.getfield 51, 3) := by decide +kernel
theorem d_T_isCover_46 : decode b_T_isCover 46 = .ok (.lcmp, 1) := by decide +kernel
theorem d_T_isCover_47 : decode b_T_isCover 47 = .ok (.ifCond .ne 7, 3) := by decide +kernel
theorem d_T_isCover_50 : decode b_T_isCover 50 = .ok (.iconst 1, 1) := by decide +kernel
theorem d_T_isCover_51 : decode b_T_isCover 51 = .ok (.goto 4, 3) := by decide +kernel
theorem d_T_isCover_54 : decode b_T_isCover 54 = .ok (.iconst 0, 1) := by decide +kernel
theorem d_T_isCover_55 : decode b_T_isCover 55 = .ok (.ireturn, 1) := by decide +kernel
theorem d_T_countThinned_0 : decode b_T_countThinned 0 = .ok (.lconst 0, 1) := by decide +kernel
theorem d_T_countThinned_1 : decode b_T_countThinned 1 = .ok (.lstore_n 2, 1) := by decide +kernel
theorem d_T_countThinned_2 : decode b_T_countThinned 2 = .ok (.iconst 0, 1) := by decide +kernel
theorem d_T_countThinned_3 : decode b_T_countThinned 3 = .ok (.istore 4, 2) := by decide +kernel
theorem d_T_countThinned_5 : decode b_T_countThinned 5 = .ok (.iload 4, 2) := by decide +kernel
theorem d_T_countThinned_7 : decode b_T_countThinned 7 = .ok (.aload_n 0, 1) := by decide +kernel
theorem d_T_countThinned_8 : decode b_T_countThinned 8 = .ok (.getfield 55, 3) := by decide +kernel
theorem d_T_countThinned_11 : decode b_T_countThinned 11 = .ok (.if_icmp .ge 27, 3) := by decide +kernel
theorem d_T_countThinned_14 : decode b_T_countThinned 14 = .ok (.aload_n 0, 1) := by decide +kernel
theorem d_T_countThinned_15 : decode b_T_countThinned 15 = .ok (.getfield 9, 3) := by decide +kernel
theorem d_T_countThinned_18 : decode b_T_countThinned 18 = .ok (.iload 4, 2) := by decide +kernel
theorem d_T_countThinned_20 : decode b_T_countThinned 20 = .ok (.iaload, 1) := by decide +kernel
theorem d_T_countThinned_21 : decode b_T_countThinned 21 = .ok (.iload_n 1, 1) := by decide +kernel
theorem d_T_countThinned_22 : decode b_T_countThinned 22 = .ok (.if_icmp .lt 10, 3) := by decide +kernel
theorem d_T_countThinned_25 : decode b_T_countThinned 25 = .ok (.lload_n 2, 1) := by decide +kernel
theorem d_T_countThinned_26 : decode b_T_countThinned 26 = .ok (.lconst 1, 1) := by decide +kernel
theorem d_T_countThinned_27 : decode b_T_countThinned 27 = .ok (.iload 4, 2) := by decide +kernel
theorem d_T_countThinned_29 : decode b_T_countThinned 29 = .ok (.lshl, 1) := by decide +kernel
theorem d_T_countThinned_30 : decode b_T_countThinned 30 = .ok (.lor, 1) := by decide +kernel
theorem d_T_countThinned_31 : decode b_T_countThinned 31 = .ok (.lstore_n 2, 1) := by decide +kernel
theorem d_T_countThinned_32 : decode b_T_countThinned 32 = .ok (.iinc 4 1, 3) := by decide +kernel
theorem d_T_countThinned_35 : decode b_T_countThinned 35 = .ok (.goto (-30), 3) := by decide +kernel
theorem d_T_countThinned_38 : decode b_T_countThinned 38 = .ok (.aload_n 0, 1) := by decide +kernel
theorem d_T_countThinned_39 : decode b_T_countThinned 39 = .ok (.lload_n 2, 1) := by decide +kernel
theorem d_T_countThinned_40 : decode b_T_countThinned 40 = .ok (.invokevirtual 80, 3) := by decide +kernel
theorem d_T_countThinned_43 : decode b_T_countThinned 43 = .ok (.ifCond .ne 5, 3) := by decide +kernel
theorem d_T_countThinned_46 : decode b_T_countThinned 46 = .ok (.iconst (-1), 1) := by decide +kernel
theorem d_T_countThinned_47 : decode b_T_countThinned 47 = .ok (.ireturn, 1) := by decide +kernel
theorem d_T_countThinned_48 : decode b_T_countThinned 48 = .ok (.aload_n 0, 1) := by decide +kernel
theorem d_T_countThinned_49 : decode b_T_countThinned 49 = .ok (.getfield 55, 3) := by decide +kernel
theorem d_T_countThinned_52 : decode b_T_countThinned 52 = .ok (.iconst 1, 1) := by decide +kernel
theorem d_T_countThinned_53 : decode b_T_countThinned 53 = .ok (.isub, 1) := by decide +kernel
theorem d_T_countThinned_54 : decode b_T_countThinned 54 = .ok (.istore 4, 2) := by decide +kernel
theorem d_T_countThinned_56 : decode b_T_countThinned 56 = .ok (.iload 4, 2) := by decide +kernel
theorem d_T_countThinned_58 : decode b_T_countThinned 58 = .ok (.ifCond .lt 40, 3) := by decide +kernel
theorem d_T_countThinned_61 : decode b_T_countThinned 61 = .ok (.lload_n 2, 1) := by decide +kernel
theorem d_T_countThinned_62 : decode b_T_countThinned 62 = .ok (.lconst 1, 1) := by decide +kernel
theorem d_T_countThinned_63 : decode b_T_countThinned 63 = .ok (.iload 4, 2) := by decide +kernel
theorem d_T_countThinned_65 : decode b_T_countThinned 65 = .ok (.lshl, 1) := by decide +kernel
theorem d_T_countThinned_66 : decode b_T_countThinned 66 = .ok (.ldc2_w 75, 3) := by decide +kernel
theorem d_T_countThinned_69 : decode b_T_countThinned 69 = .ok (.lxor, 1) := by decide +kernel
theorem d_T_countThinned_70 : decode b_T_countThinned 70 = .ok (.land, 1) := by decide +kernel
theorem d_T_countThinned_71 : decode b_T_countThinned 71 = .ok (.lstore 5, 2) := by decide +kernel
theorem d_T_countThinned_73 : decode b_T_countThinned 73 = .ok (.lload 5, 2) := by decide +kernel
theorem d_T_countThinned_75 : decode b_T_countThinned 75 = .ok (.lload_n 2, 1) := by decide +kernel
theorem d_T_countThinned_76 : decode b_T_countThinned 76 = .ok (.lcmp, 1) := by decide +kernel
theorem d_T_countThinned_77 : decode b_T_countThinned 77 = .ok (.ifCond .eq 15, 3) := by decide +kernel
theorem d_T_countThinned_80 : decode b_T_countThinned 80 = .ok (.aload_n 0, 1) := by decide +kernel
theorem d_T_countThinned_81 : decode b_T_countThinned 81 = .ok (.lload 5, 2) := by decide +kernel
theorem d_T_countThinned_83 : decode b_T_countThinned 83 = .ok (.invokevirtual 80, 3) := by decide +kernel
theorem d_T_countThinned_86 : decode b_T_countThinned 86 = .ok (.ifCond .eq 6, 3) := by decide +kernel
theorem d_T_countThinned_89 : decode b_T_countThinned 89 = .ok (.lload 5, 2) := by decide +kernel
theorem d_T_countThinned_91 : decode b_T_countThinned 91 = .ok (.lstore_n 2, 1) := by decide +kernel
theorem d_T_countThinned_92 : decode b_T_countThinned 92 = .ok (.iinc 4 (-1), 3) := by decide +kernel
theorem d_T_countThinned_95 : decode b_T_countThinned 95 = .ok (.goto (-39), 3) := by decide +kernel
theorem d_T_countThinned_98 : decode b_T_countThinned 98 = .ok (.lload_n 2, 1) := by decide +kernel
theorem d_T_countThinned_99 : decode b_T_countThinned 99 = .ok (.invokestatic 84, 3) := by decide +kernel
theorem d_T_countThinned_102 : decode b_T_countThinned 102 = .ok (.ireturn, 1) := by decide +kernel
theorem d_P_init_0 : decode b_P_init 0 = .ok (.aload_n 0, 1) := by decide +kernel
theorem d_P_init_1 : decode b_P_init 1 = .ok (.invokespecial 3, 3) := by decide +kernel
theorem d_P_init_4 : decode b_P_init 4 = .ok (.aload_n 0, 1) := by decide +kernel
theorem d_P_init_5 : decode b_P_init 5 = .ok (.bipush 81, 2) := by decide +kernel
theorem d_P_init_7 : decode b_P_init 7 = .ok (.newarray .int, 2) := by decide +kernel
theorem d_P_init_9 : decode b_P_init 9 = .ok (.putfield 9, 3) := by decide +kernel
theorem d_P_init_12 : decode b_P_init 12 = .ok (.aload_n 0, 1) := by decide +kernel
theorem d_P_init_13 : decode b_P_init 13 = .ok (.bipush 81, 2) := by decide +kernel
theorem d_P_init_15 : decode b_P_init 15 = .ok (.newarray .int, 2) := by decide +kernel
theorem d_P_init_17 : decode b_P_init 17 = .ok (.putfield 15, 3) := by decide +kernel
theorem d_P_init_20 : decode b_P_init 20 = .ok (.iconst 0, 1) := by decide +kernel
theorem d_P_init_21 : decode b_P_init 21 = .ok (.istore_n 1, 1) := by decide +kernel
theorem d_P_init_22 : decode b_P_init 22 = .ok (.iload_n 1, 1) := by decide +kernel
theorem d_P_init_23 : decode b_P_init 23 = .ok (.bipush 81, 2) := by decide +kernel
theorem d_P_init_25 : decode b_P_init 25 = .ok (.if_icmp .ge 14, 3) := by decide +kernel
theorem d_P_init_28 : decode b_P_init 28 = .ok (.aload_n 0, 1) := by decide +kernel
theorem d_P_init_29 : decode b_P_init 29 = .ok (.iload_n 1, 1) := by decide +kernel
theorem d_P_init_30 : decode b_P_init 30 = .ok (.invokevirtual 18, 3) := by decide +kernel
theorem d_P_init_33 : decode b_P_init 33 = .ok (.iinc 1 1, 3) := by decide +kernel
theorem d_P_init_36 : decode b_P_init 36 = .ok (.goto (-14), 3) := by decide +kernel
theorem d_P_init_39 : decode b_P_init 39 = .ok (.return_, 1) := by decide +kernel
theorem d_P_describe_0 : decode b_P_describe 0 = .ok (.ldc 22, 2) := by decide +kernel
theorem d_P_describe_2 : decode b_P_describe 2 = .ok (.istore_n 2, 1) := by decide +kernel
theorem d_P_describe_3 : decode b_P_describe 3 = .ok (.iconst 0, 1) := by decide +kernel
theorem d_P_describe_4 : decode b_P_describe 4 = .ok (.istore_n 3, 1) := by decide +kernel
theorem d_P_describe_5 : decode b_P_describe 5 = .ok (.iload_n 1, 1) := by decide +kernel
theorem d_P_describe_6 : decode b_P_describe 6 = .ok (.istore 4, 2) := by decide +kernel
theorem d_P_describe_8 : decode b_P_describe 8 = .ok (.iconst 0, 1) := by decide +kernel
theorem d_P_describe_9 : decode b_P_describe 9 = .ok (.istore 5, 2) := by decide +kernel
theorem d_P_describe_11 : decode b_P_describe 11 = .ok (.iload 5, 2) := by decide +kernel
theorem d_P_describe_13 : decode b_P_describe 13 = .ok (.iconst 4, 1) := by decide +kernel
theorem d_P_describe_14 : decode b_P_describe 14 = .ok (.if_icmp .ge 62, 3) := by decide +kernel
theorem d_P_describe_17 : decode b_P_describe 17 = .ok (.iload 4, 2) := by decide +kernel
theorem d_P_describe_19 : decode b_P_describe 19 = .ok (.iconst 3, 1) := by decide +kernel
theorem d_P_describe_20 : decode b_P_describe 20 = .ok (.irem, 1) := by decide +kernel
theorem d_P_describe_21 : decode b_P_describe 21 = .ok (.istore 6, 2) := by decide +kernel
theorem d_P_describe_23 : decode b_P_describe 23 = .ok (.iload 4, 2) := by decide +kernel
theorem d_P_describe_25 : decode b_P_describe 25 = .ok (.iconst 3, 1) := by decide +kernel
theorem d_P_describe_26 : decode b_P_describe 26 = .ok (.idiv, 1) := by decide +kernel
theorem d_P_describe_27 : decode b_P_describe 27 = .ok (.istore 4, 2) := by decide +kernel
theorem d_P_describe_29 : decode b_P_describe 29 = .ok (.iload 6, 2) := by decide +kernel
theorem d_P_describe_31 : decode b_P_describe 31 = .ok (.iconst 1, 1) := by decide +kernel
theorem d_P_describe_32 : decode b_P_describe 32 = .ok (.if_icmp .ne 18, 3) := by decide +kernel
theorem d_P_describe_35 : decode b_P_describe 35 = .ok (.iload_n 2, 1) := by decide +kernel
theorem d_P_describe_36 : decode b_P_describe 36 = .ok (.getstatic 23, 3) := by decide +kernel
theorem d_P_describe_39 : decode b_P_describe 39 = .ok (.iload 5, 2) := by decide +kernel
theorem d_P_describe_41 : decode b_P_describe 41 = .ok (.iaload, 1) := by decide +kernel
theorem d_P_describe_42 : decode b_P_describe 42 = .ok (.iand, 1) := by decide +kernel
theorem d_P_describe_43 : decode b_P_describe 43 = .ok (.istore_n 2, 1) := by decide +kernel
theorem d_P_describe_44 : decode b_P_describe 44 = .ok (.iinc 3 1, 3) := by decide +kernel
theorem d_P_describe_47 : decode b_P_describe 47 = .ok (.goto 23, 3) := by decide +kernel
theorem d_P_describe_50 : decode b_P_describe 50 = .ok (.iload 6, 2) := by decide +kernel
theorem d_P_describe_52 : decode b_P_describe 52 = .ok (.iconst 2, 1) := by decide +kernel
theorem d_P_describe_53 : decode b_P_describe 53 = .ok (.if_icmp .ne 17, 3) := by decide +kernel
theorem d_P_describe_56 : decode b_P_describe 56 = .ok (.iload_n 2, 1) := by decide +kernel
theorem d_P_describe_57 : decode b_P_describe 57 = .ok (.getstatic 23, 3) := by decide +kernel
theorem d_P_describe_60 : decode b_P_describe 60 = .ok (.iload 5, 2) := by decide +kernel
theorem d_P_describe_62 : decode b_P_describe 62 = .ok (.iaload, 1) := by decide +kernel
theorem d_P_describe_63 : decode b_P_describe 63 = .ok (.iconst (-1), 1) := by decide +kernel
theorem d_P_describe_64 : decode b_P_describe 64 = .ok (.ixor, 1) := by decide +kernel
theorem d_P_describe_65 : decode b_P_describe 65 = .ok (.iand, 1) := by decide +kernel
theorem d_P_describe_66 : decode b_P_describe 66 = .ok (.istore_n 2, 1) := by decide +kernel
theorem d_P_describe_67 : decode b_P_describe 67 = .ok (.iinc 3 1, 3) := by decide +kernel
theorem d_P_describe_70 : decode b_P_describe 70 = .ok (.iinc 5 1, 3) := by decide +kernel
theorem d_P_describe_73 : decode b_P_describe 73 = .ok (.goto (-62), 3) := by decide +kernel
theorem d_P_describe_76 : decode b_P_describe 76 = .ok (.aload_n 0, 1) := by decide +kernel
theorem d_P_describe_77 : decode b_P_describe 77 = .ok (.getfield 9, 3) := by decide +kernel
theorem d_P_describe_80 : decode b_P_describe 80 = .ok (.iload_n 1, 1) := by decide +kernel
theorem d_P_describe_81 : decode b_P_describe 81 = .ok (.iload_n 2, 1) := by decide +kernel
theorem d_P_describe_82 : decode b_P_describe 82 = .ok (.iastore, 1) := by decide +kernel
theorem d_P_describe_83 : decode b_P_describe 83 = .ok (.aload_n 0, 1) := by decide +kernel
theorem d_P_describe_84 : decode b_P_describe 84 = .ok (.getfield 15, 3) := by decide +kernel
theorem d_P_describe_87 : decode b_P_describe 87 = .ok (.iload_n 1, 1) := by decide +kernel
theorem d_P_describe_88 : decode b_P_describe 88 = .ok (.iload_n 3, 1) := by decide +kernel
theorem d_P_describe_89 : decode b_P_describe 89 = .ok (.iastore, 1) := by decide +kernel
theorem d_P_describe_90 : decode b_P_describe 90 = .ok (.return_, 1) := by decide +kernel
theorem d_P_howMany_0 : decode b_P_howMany 0 = .ok (.iload_n 0, 1) := by decide +kernel
theorem d_P_howMany_1 : decode b_P_howMany 1 = .ok (.ifCond .lt 16, 3) := by decide +kernel
theorem d_P_howMany_4 : decode b_P_howMany 4 = .ok (.iload_n 0, 1) := by decide +kernel
theorem d_P_howMany_5 : decode b_P_howMany 5 = .ok (.iconst 4, 1) := by decide +kernel
theorem d_P_howMany_6 : decode b_P_howMany 6 = .ok (.if_icmp .gt 11, 3) := by decide +kernel
theorem d_P_howMany_9 : decode b_P_howMany 9 = .ok (.getstatic 26, 3) := by decide +kernel
theorem d_P_howMany_12 : decode b_P_howMany 12 = .ok (.iload_n 0, 1) := by decide +kernel
theorem d_P_howMany_13 : decode b_P_howMany 13 = .ok (.iaload, 1) := by decide +kernel
theorem d_P_howMany_14 : decode b_P_howMany 14 = .ok (.goto 4, 3) := by decide +kernel
theorem d_P_howMany_17 : decode b_P_howMany 17 = .ok (.iconst 0, 1) := by decide +kernel
theorem d_P_howMany_18 : decode b_P_howMany 18 = .ok (.ireturn, 1) := by decide +kernel
theorem d_P_withoutPart_0 : decode b_P_withoutPart 0 = .ok (.iload_n 0, 1) := by decide +kernel
theorem d_P_withoutPart_1 : decode b_P_withoutPart 1 = .ok (.ifCond .lt 18, 3) := by decide +kernel
theorem d_P_withoutPart_4 : decode b_P_withoutPart 4 = .ok (.iload_n 0, 1) := by decide +kernel
theorem d_P_withoutPart_5 : decode b_P_withoutPart 5 = .ok (.bipush 81, 2) := by decide +kernel
theorem d_P_withoutPart_7 : decode b_P_withoutPart 7 = .ok (.if_icmp .ge 12, 3) := by decide +kernel
theorem d_P_withoutPart_10 : decode b_P_withoutPart 10 = .ok (.iload_n 1, 1) := by decide +kernel
theorem d_P_withoutPart_11 : decode b_P_withoutPart 11 = .ok (.ifCond .lt 8, 3) := by decide +kernel
theorem d_P_withoutPart_14 : decode b_P_withoutPart 14 = .ok (.iload_n 1, 1) := by decide +kernel
theorem d_P_withoutPart_15 : decode b_P_withoutPart 15 = .ok (.iconst 4, 1) := by decide +kernel
theorem d_P_withoutPart_16 : decode b_P_withoutPart 16 = .ok (.if_icmp .lt 5, 3) := by decide +kernel
theorem d_P_withoutPart_19 : decode b_P_withoutPart 19 = .ok (.iload_n 0, 1) := by decide +kernel
theorem d_P_withoutPart_20 : decode b_P_withoutPart 20 = .ok (.ireturn, 1) := by decide +kernel
theorem d_P_withoutPart_21 : decode b_P_withoutPart 21 = .ok (.getstatic 26, 3) := by decide +kernel
theorem d_P_withoutPart_24 : decode b_P_withoutPart 24 = .ok (.iload_n 1, 1) := by decide +kernel
theorem d_P_withoutPart_25 : decode b_P_withoutPart 25 = .ok (.iaload, 1) := by decide +kernel
theorem d_P_withoutPart_26 : decode b_P_withoutPart 26 = .ok (.istore_n 2, 1) := by decide +kernel
theorem d_P_withoutPart_27 : decode b_P_withoutPart 27 = .ok (.iload_n 2, 1) := by decide +kernel
theorem d_P_withoutPart_28 : decode b_P_withoutPart 28 = .ok (.ifCond .ne 7, 3) := by decide +kernel
theorem d_P_withoutPart_31 : decode b_P_withoutPart 31 = .ok (.iconst 0, 1) := by decide +kernel
theorem d_P_withoutPart_32 : decode b_P_withoutPart 32 = .ok (.goto 8, 3) := by decide +kernel
theorem d_P_withoutPart_35 : decode b_P_withoutPart 35 = .ok (.iload_n 0, 1) := by decide +kernel
theorem d_P_withoutPart_36 : decode b_P_withoutPart 36 = .ok (.iload_n 2, 1) := by decide +kernel
theorem d_P_withoutPart_37 : decode b_P_withoutPart 37 = .ok (.idiv, 1) := by decide +kernel
theorem d_P_withoutPart_38 : decode b_P_withoutPart 38 = .ok (.iconst 3, 1) := by decide +kernel
theorem d_P_withoutPart_39 : decode b_P_withoutPart 39 = .ok (.irem, 1) := by decide +kernel
theorem d_P_withoutPart_40 : decode b_P_withoutPart 40 = .ok (.istore_n 3, 1) := by decide +kernel
theorem d_P_withoutPart_41 : decode b_P_withoutPart 41 = .ok (.iload_n 0, 1) := by decide +kernel
theorem d_P_withoutPart_42 : decode b_P_withoutPart 42 = .ok (.iload_n 3, 1) := by decide +kernel
theorem d_P_withoutPart_43 : decode b_P_withoutPart 43 = .ok (.iload_n 2, 1) := by decide +kernel
theorem d_P_withoutPart_44 : decode b_P_withoutPart 44 = .ok (.imul, 1) := by decide +kernel
theorem d_P_withoutPart_45 : decode b_P_withoutPart 45 = .ok (.isub, 1) := by decide +kernel
theorem d_P_withoutPart_46 : decode b_P_withoutPart 46 = .ok (.ireturn, 1) := by decide +kernel
end
section
theorem d_S_init_0 : decode b_S_init 0 = .ok (.aload_n 0, 1) := by decide +kernel
theorem d_S_init_1 : decode b_S_init 1 = .ok (.invokespecial 3, 3) := by decide +kernel
theorem d_S_init_4 : decode b_S_init 4 = .ok (.aload_n 0, 1) := by decide +kernel
theorem d_S_init_5 : decode b_S_init 5 = .ok (.bipush 81, 2) := by decide +kernel
theorem d_S_init_7 : decode b_S_init 7 = .ok (.newarray .int, 2) := by decide +kernel
theorem d_S_init_9 : decode b_S_init 9 = .ok (.putfield 9, 3) := by decide +kernel
theorem d_S_init_12 : decode b_S_init 12 = .ok (.aload_n 0, 1) := by decide +kernel
theorem d_S_init_13 : decode b_S_init 13 = .ok (.new 15, 3) := by decide +kernel
theorem d_S_init_16 : decode b_S_init 16 = .ok (.dup, 1) := by decide +kernel
theorem d_S_init_17 : decode b_S_init 17 = .ok (.invokespecial 17, 3) := by decide +kernel
theorem d_S_init_20 : decode b_S_init 20 = .ok (.putfield 18, 3) := by decide +kernel
theorem d_S_init_23 : decode b_S_init 23 = .ok (.aload_n 0, 1) := by decide +kernel
theorem d_S_init_24 : decode b_S_init 24 = .ok (.bipush 81, 2) := by decide +kernel
theorem d_S_init_26 : decode b_S_init 26 = .ok (.newarray .int, 2) := by decide +kernel
theorem d_S_init_28 : decode b_S_init 28 = .ok (.putfield 22, 3) := by decide +kernel
theorem d_S_init_31 : decode b_S_init 31 = .ok (.aload_n 0, 1) := by decide +kernel
theorem d_S_init_32 : decode b_S_init 32 = .ok (.bipush 32, 2) := by decide +kernel
theorem d_S_init_34 : decode b_S_init 34 = .ok (.newarray .long, 2) := by decide +kernel
theorem d_S_init_36 : decode b_S_init 36 = .ok (.putfield 25, 3) := by decide +kernel
theorem d_S_init_39 : decode b_S_init 39 = .ok (.return_, 1) := by decide +kernel
theorem d_S_findLeast_0 : decode b_S_findLeast 0 = .ok (.iconst 0, 1) := by decide +kernel
theorem d_S_findLeast_1 : decode b_S_findLeast 1 = .ok (.istore_n 1, 1) := by decide +kernel
theorem d_S_findLeast_2 : decode b_S_findLeast 2 = .ok (.iload_n 1, 1) := by decide +kernel
theorem d_S_findLeast_3 : decode b_S_findLeast 3 = .ok (.aload_n 0, 1) := by decide +kernel
theorem d_S_findLeast_4 : decode b_S_findLeast 4 = .ok (.getfield 18, 3) := by decide +kernel
theorem d_S_findLeast_7 : decode b_S_findLeast 7 = .ok (.getfield 29, 3) := by decide +kernel
theorem d_S_findLeast_10 : decode b_S_findLeast 10 = .ok (.if_icmp .ge 28, 3) := by decide +kernel
theorem d_S_findLeast_13 : decode b_S_findLeast 13 = .ok (.aload_n 0, 1) := by decide +kernel
theorem d_S_findLeast_14 : decode b_S_findLeast 14 = .ok (.getfield 22, 3) := by decide +kernel
theorem d_S_findLeast_17 : decode b_S_findLeast 17 = .ok (.iload_n 1, 1) := by decide +kernel
theorem d_S_findLeast_18 : decode b_S_findLeast 18 = .ok (.sipush 1000, 3) := by decide +kernel
theorem d_S_findLeast_21 : decode b_S_findLeast 21 = .ok (.aload_n 0, 1) := by decide +kernel
theorem d_S_findLeast_22 : decode b_S_findLeast 22 = .ok (.getfield 18, 3) := by decide +kernel
theorem d_S_findLeast_25 : decode b_S_findLeast 25 = .ok (.getfield 33, 3) := by decide +kernel
theorem d_S_findLeast_28 : decode b_S_findLeast 28 = .ok (.iload_n 1, 1) := by decide +kernel
theorem d_S_findLeast_29 : decode b_S_findLeast 29 = .ok (.iaload, 1) := by decide +kernel
theorem d_S_findLeast_30 : decode b_S_findLeast 30 = .ok (.iadd, 1) := by decide +kernel
theorem d_S_findLeast_31 : decode b_S_findLeast 31 = .ok (.iastore, 1) := by decide +kernel
theorem d_S_findLeast_32 : decode b_S_findLeast 32 = .ok (.iinc 1 1, 3) := by decide +kernel
theorem d_S_findLeast_35 : decode b_S_findLeast 35 = .ok (.goto (-33), 3) := by decide +kernel
theorem d_S_findLeast_38 : decode b_S_findLeast 38 = .ok (.iconst 0, 1) := by decide +kernel
theorem d_S_findLeast_39 : decode b_S_findLeast 39 = .ok (.istore_n 1, 1) := by decide +kernel
theorem d_S_findLeast_40 : decode b_S_findLeast 40 = .ok (.iload_n 1, 1) := by decide +kernel
theorem d_S_findLeast_41 : decode b_S_findLeast 41 = .ok (.bipush 32, 2) := by decide +kernel
theorem d_S_findLeast_43 : decode b_S_findLeast 43 = .ok (.if_icmp .ge 20, 3) := by decide +kernel
theorem d_S_findLeast_46 : decode b_S_findLeast 46 = .ok (.aload_n 0, 1) := by decide +kernel
theorem d_S_findLeast_47 : decode b_S_findLeast 47 = .ok (.getfield 25, 3) := by decide +kernel
theorem d_S_findLeast_50 : decode b_S_findLeast 50 = .ok (.iload_n 1, 1) := by decide +kernel
theorem d_S_findLeast_51 : decode b_S_findLeast 51 = .ok (.aload_n 0, 1) := by decide +kernel
theorem d_S_findLeast_52 : decode b_S_findLeast 52 = .ok (.iload_n 1, 1) := by decide +kernel
theorem d_S_findLeast_53 : decode b_S_findLeast 53 = .ok (.invokevirtual 36, 3) := by decide +kernel
theorem d_S_findLeast_56 : decode b_S_findLeast 56 = .ok (.lastore, 1) := by decide +kernel
theorem d_S_findLeast_57 : decode b_S_findLeast 57 = .ok (.iinc 1 1, 3) := by decide +kernel
theorem d_S_findLeast_60 : decode b_S_findLeast 60 = .ok (.goto (-20), 3) := by decide +kernel
theorem d_S_findLeast_63 : decode b_S_findLeast 63 = .ok (.aload_n 0, 1) := by decide +kernel
theorem d_S_findLeast_64 : decode b_S_findLeast 64 = .ok (.ldc 40, 2) := by decide +kernel
theorem d_S_findLeast_66 : decode b_S_findLeast 66 = .ok (.putfield 41, 3) := by decide +kernel
theorem d_S_findLeast_69 : decode b_S_findLeast 69 = .ok (.aload_n 0, 1) := by decide +kernel
theorem d_S_findLeast_70 : decode b_S_findLeast 70 = .ok (.lconst 0, 1) := by decide +kernel
theorem d_S_findLeast_71 : decode b_S_findLeast 71 = .ok (.putfield 44, 3) := by decide +kernel
theorem d_S_findLeast_74 : decode b_S_findLeast 74 = .ok (.aload_n 0, 1) := by decide +kernel
theorem d_S_findLeast_75 : decode b_S_findLeast 75 = .ok (.iconst 0, 1) := by decide +kernel
theorem d_S_findLeast_76 : decode b_S_findLeast 76 = .ok (.aload_n 0, 1) := by decide +kernel
theorem d_S_findLeast_77 : decode b_S_findLeast 77 = .ok (.getfield 18, 3) := by decide +kernel
theorem d_S_findLeast_80 : decode b_S_findLeast 80 = .ok (.getfield 48, 3) := by decide +kernel
theorem d_S_findLeast_83 : decode b_S_findLeast 83 = .ok (.lconst 1, 1) := by decide +kernel
theorem d_S_findLeast_84 : decode b_S_findLeast 84 = .ok (.aload_n 0, 1) := by decide +kernel
theorem d_S_findLeast_85 : decode b_S_findLeast 85 = .ok (.getfield 18, 3) := by decide +kernel
theorem d_S_findLeast_88 : decode b_S_findLeast 88 = .ok (.getfield 29, 3) := by decide +kernel
theorem d_S_findLeast_91 : decode b_S_findLeast 91 = .ok (.lshl, 1) := by decide +kernel
theorem d_S_findLeast_92 : decode b_S_findLeast 92 = .ok (.lconst 1, 1) := by decide +kernel
theorem d_S_findLeast_93 : decode b_S_findLeast 93 = .ok (.lsub, 1) := by decide +kernel
theorem d_S_findLeast_94 : decode b_S_findLeast 94 = .ok (.iconst 0, 1) := by decide +kernel
theorem d_S_findLeast_95 : decode b_S_findLeast 95 = .ok (.lconst 0, 1) := by decide +kernel
theorem d_S_findLeast_96 : decode b_S_findLeast 96 = .ok (.invokevirtual 51, 3) := by decide +kernel
theorem d_S_findLeast_99 : decode b_S_findLeast 99 = .ok (.aload_n 0, 1) := by decide +kernel
theorem d_S_findLeast_100 : decode b_S_findLeast 100 = .ok (.invokevirtual 55, 3) := by decide +kernel
theorem d_S_findLeast_103 : decode b_S_findLeast 103 = .ok (.return_, 1) := by decide +kernel
theorem d_S_makesOne_0 : decode b_S_makesOne 0 = .ok (.iconst 0, 1) := by decide +kernel
theorem d_S_makesOne_1 : decode b_S_makesOne 1 = .ok (.istore_n 3, 1) := by decide +kernel
theorem d_S_makesOne_2 : decode b_S_makesOne 2 = .ok (.iload_n 3, 1) := by decide +kernel
theorem d_S_makesOne_3 : decode b_S_makesOne 3 = .ok (.aload_n 0, 1) := by decide +kernel
theorem d_S_makesOne_4 : decode b_S_makesOne 4 = .ok (.getfield 58, 3) := by decide +kernel
theorem d_S_makesOne_7 : decode b_S_makesOne 7 = .ok (.if_icmp .ge 53, 3) := by decide +kernel
theorem d_S_makesOne_10 : decode b_S_makesOne 10 = .ok (.aload_n 0, 1) := by decide +kernel
theorem d_S_makesOne_11 : decode b_S_makesOne 11 = .ok (.getfield 9, 3) := by decide +kernel
theorem d_S_makesOne_14 : decode b_S_makesOne 14 = .ok (.iload_n 3, 1) := by decide +kernel
theorem d_S_makesOne_15 : decode b_S_makesOne 15 = .ok (.iaload, 1) := by decide +kernel
theorem d_S_makesOne_16 : decode b_S_makesOne 16 = .ok (.istore 4, 2) := by decide +kernel
theorem d_S_makesOne_18 : decode b_S_makesOne 18 = .ok (.aload_n 0, 1) := by decide +kernel
theorem d_S_makesOne_19 : decode b_S_makesOne 19 = .ok (.getfield 18, 3) := by decide +kernel
theorem d_S_makesOne_22 : decode b_S_makesOne 22 = .ok (.getfield 61, 3) := by decide +kernel
theorem d_S_makesOne_25 : decode b_S_makesOne 25 = .ok (.iload 4, 2) := by decide +kernel
theorem d_S_makesOne_27 : decode b_S_makesOne 27 = .ok (.iaload, 1) := by decide +kernel
theorem d_S_makesOne_28 : decode b_S_makesOne 28 = .ok (.iload_n 1, 1) := by decide +kernel
theorem d_S_makesOne_29 : decode b_S_makesOne 29 = .ok (.ishr, 1) := by decide +kernel
theorem d_S_makesOne_30 : decode b_S_makesOne 30 = .ok (.iconst 1, 1) := by decide +kernel
theorem d_S_makesOne_31 : decode b_S_makesOne 31 = .ok (.iand, 1) := by decide +kernel
theorem d_S_makesOne_32 : decode b_S_makesOne 32 = .ok (.ifCond .eq 22, 3) := by decide +kernel
theorem d_S_makesOne_35 : decode b_S_makesOne 35 = .ok (.aload_n 0, 1) := by decide +kernel
theorem d_S_makesOne_36 : decode b_S_makesOne 36 = .ok (.getfield 18, 3) := by decide +kernel
theorem d_S_makesOne_39 : decode b_S_makesOne 39 = .ok (.getfield 64, 3) := by decide +kernel
theorem d_S_makesOne_42 : decode b_S_makesOne 42 = .ok (.iload 4, 2) := by decide +kernel
theorem d_S_makesOne_44 : decode b_S_makesOne 44 = .ok (.iaload, 1) := by decide +kernel
theorem d_S_makesOne_45 : decode b_S_makesOne 45 = .ok (.iload_n 2, 1) := by decide +kernel
theorem d_S_makesOne_46 : decode b_S_makesOne 46 = .ok (.ishr, 1) := by decide +kernel
theorem d_S_makesOne_47 : decode b_S_makesOne 47 = .ok (.iconst 1, 1) := by decide +kernel
theorem d_S_makesOne_48 : decode b_S_makesOne 48 = .ok (.iand, 1) := by decide +kernel
theorem d_S_makesOne_49 : decode b_S_makesOne 49 = .ok (.ifCond .eq 5, 3) := by decide +kernel
theorem d_S_makesOne_52 : decode b_S_makesOne 52 = .ok (.iconst 1, 1) := by decide +kernel
theorem d_S_makesOne_53 : decode b_S_makesOne 53 = .ok (.ireturn, 1) := by decide +kernel
theorem d_S_makesOne_54 : decode b_S_makesOne 54 = .ok (.iinc 3 1, 3) := by decide +kernel
theorem d_S_makesOne_57 : decode b_S_makesOne 57 = .ok (.goto (-55), 3) := by decide +kernel
theorem d_S_makesOne_60 : decode b_S_makesOne 60 = .ok (.iconst 0, 1) := by decide +kernel
theorem d_S_makesOne_61 : decode b_S_makesOne 61 = .ok (.ireturn, 1) := by decide +kernel
theorem d_S_serversOf_0 : decode b_S_serversOf 0 = .ok (.lconst 0, 1) := by decide +kernel
theorem d_S_serversOf_1 : decode b_S_serversOf 1 = .ok (.lstore_n 2, 1) := by decide +kernel
theorem d_S_serversOf_2 : decode b_S_serversOf 2 = .ok (.iconst 0, 1) := by decide +kernel
theorem d_S_serversOf_3 : decode b_S_serversOf 3 = .ok (.istore 4, 2) := by decide +kernel
theorem d_S_serversOf_5 : decode b_S_serversOf 5 = .ok (.iload 4, 2) := by decide +kernel
theorem d_S_serversOf_7 : decode b_S_serversOf 7 = .ok (.aload_n 0, 1) := by decide +kernel
theorem d_S_serversOf_8 : decode b_S_serversOf 8 = .ok (.getfield 18, 3) := by decide +kernel
theorem d_S_serversOf_11 : decode b_S_serversOf 11 = .ok (.getfield 29, 3) := by decide +kernel
theorem d_S_serversOf_14 : decode b_S_serversOf 14 = .ok (.if_icmp .ge 29, 3) := by decide +kernel
theorem d_S_serversOf_17 : decode b_S_serversOf 17 = .ok (.lload_n 2, 1) := by decide +kernel
theorem d_S_serversOf_18 : decode b_S_serversOf 18 = .ok (.aload_n 0, 1) := by decide +kernel
theorem d_S_serversOf_19 : decode b_S_serversOf 19 = .ok (.getfield 18, 3) := by decide +kernel
theorem d_S_serversOf_22 : decode b_S_serversOf 22 = .ok (.getfield 67, 3) := by decide +kernel
theorem d_S_serversOf_25 : decode b_S_serversOf 25 = .ok (.iload 4, 2) := by decide +kernel
theorem d_S_serversOf_27 : decode b_S_serversOf 27 = .ok (.laload, 1) := by decide +kernel
theorem d_S_serversOf_28 : decode b_S_serversOf 28 = .ok (.iload_n 1, 1) := by decide +kernel
theorem d_S_serversOf_29 : decode b_S_serversOf 29 = .ok (.lshr, 1) := by decide +kernel
theorem d_S_serversOf_30 : decode b_S_serversOf 30 = .ok (.lconst 1, 1) := by decide +kernel
theorem d_S_serversOf_31 : decode b_S_serversOf 31 = .ok (.land, 1) := by decide +kernel
theorem d_S_serversOf_32 : decode b_S_serversOf 32 = .ok (.iload 4, 2) := by decide +kernel
theorem d_S_serversOf_34 : decode b_S_serversOf 34 = .ok (.lshl, 1) := by decide +kernel
theorem d_S_serversOf_35 : decode b_S_serversOf 35 = .ok (.lor, 1) := by decide +kernel
theorem d_S_serversOf_36 : decode b_S_serversOf 36 = .ok (.lstore_n 2, 1) := by decide +kernel
theorem d_S_serversOf_37 : decode b_S_serversOf 37 = .ok (.iinc 4 1, 3) := by decide +kernel
theorem d_S_serversOf_40 : decode b_S_serversOf 40 = .ok (.goto (-35), 3) := by decide +kernel
theorem d_S_serversOf_43 : decode b_S_serversOf 43 = .ok (.lload_n 2, 1) := by decide +kernel
theorem d_S_serversOf_44 : decode b_S_serversOf 44 = .ok (.lreturn, 1) := by decide +kernel
theorem d_S_listBest_0 : decode b_S_listBest 0 = .ok (.aload_n 0, 1) := by decide +kernel
theorem d_S_listBest_1 : decode b_S_listBest 1 = .ok (.iconst 0, 1) := by decide +kernel
theorem d_S_listBest_2 : decode b_S_listBest 2 = .ok (.putfield 58, 3) := by decide +kernel
theorem d_S_listBest_5 : decode b_S_listBest 5 = .ok (.aload_n 0, 1) := by decide +kernel
theorem d_S_listBest_6 : decode b_S_listBest 6 = .ok (.iconst 0, 1) := by decide +kernel
theorem d_S_listBest_7 : decode b_S_listBest 7 = .ok (.putfield 70, 3) := by decide +kernel
theorem d_S_listBest_10 : decode b_S_listBest 10 = .ok (.iconst 0, 1) := by decide +kernel
theorem d_S_listBest_11 : decode b_S_listBest 11 = .ok (.istore_n 1, 1) := by decide +kernel
theorem d_S_listBest_12 : decode b_S_listBest 12 = .ok (.iload_n 1, 1) := by decide +kernel
theorem d_S_listBest_13 : decode b_S_listBest 13 = .ok (.aload_n 0, 1) := by decide +kernel
theorem d_S_listBest_14 : decode b_S_listBest 14 = .ok (.getfield 18, 3) := by decide +kernel
theorem d_S_listBest_17 : decode b_S_listBest 17 = .ok (.getfield 29, 3) := by decide +kernel
theorem d_S_listBest_20 : decode b_S_listBest 20 = .ok (.if_icmp .ge 60, 3) := by decide +kernel
theorem d_S_listBest_23 : decode b_S_listBest 23 = .ok (.aload_n 0, 1) := by decide +kernel
theorem d_S_listBest_24 : decode b_S_listBest 24 = .ok (.getfield 44, 3) := by decide +kernel
theorem d_S_listBest_27 : decode b_S_listBest 27 = .ok (.iload_n 1, 1) := by decide +kernel
theorem d_S_listBest_28 : decode b_S_listBest 28 = .ok (.lshr, 1) := by decide +kernel
theorem d_S_listBest_29 : decode b_S_listBest 29 = .ok (.lconst 1, 1) := by decide +kernel
theorem d_S_listBest_30 : decode b_S_listBest 30 = .ok (.land, 1) := by decide +kernel
theorem d_S_listBest_31 : decode b_S_listBest 31 = .ok (.lconst 0, 1) := by decide +kernel
theorem d_S_listBest_32 : decode b_S_listBest 32 = .ok (.lcmp, 1) := by decide +kernel
theorem d_S_listBest_33 : decode b_S_listBest 33 = .ok (.ifCond .eq 41, 3) := by decide +kernel
theorem d_S_listBest_36 : decode b_S_listBest 36 = .ok (.aload_n 0, 1) := by decide +kernel
theorem d_S_listBest_37 : decode b_S_listBest 37 = .ok (.getfield 9, 3) := by decide +kernel
theorem d_S_listBest_40 : decode b_S_listBest 40 = .ok (.aload_n 0, 1) := by decide +kernel
theorem d_S_listBest_41 : decode b_S_listBest 41 = .ok (.getfield 58, 3) := by decide +kernel
theorem d_S_listBest_44 : decode b_S_listBest 44 = .ok (.iload_n 1, 1) := by decide +kernel
theorem d_S_listBest_45 : decode b_S_listBest 45 = .ok (.iastore, 1) := by decide +kernel
theorem d_S_listBest_46 : decode b_S_listBest 46 = .ok (.aload_n 0, 1) := by decide +kernel
theorem d_S_listBest_47 : decode b_S_listBest 47 = .ok (.dup, 1) := by decide +kernel
theorem d_S_listBest_48 : decode b_S_listBest 48 = .ok (.getfield 58, 3) := by decide +kernel
theorem d_S_listBest_51 : decode b_S_listBest 51 = .ok (.iconst 1, 1) := by decide +kernel
theorem d_S_listBest_52 : decode b_S_listBest 52 = .ok (.iadd, 1) := by decide +kernel
theorem d_S_listBest_53 : decode b_S_listBest 53 = .ok (.putfield 58, 3) := by decide +kernel
theorem d_S_listBest_56 : decode b_S_listBest 56 = .ok (.aload_n 0, 1) := by decide +kernel
theorem d_S_listBest_57 : decode b_S_listBest 57 = .ok (.dup, 1) := by decide +kernel
theorem d_S_listBest_58 : decode b_S_listBest 58 = .ok (.getfield 70, 3) := by decide +kernel
theorem d_S_listBest_61 : decode b_S_listBest 61 = .ok (.aload_n 0, 1) := by decide +kernel
theorem d_S_listBest_62 : decode b_S_listBest 62 = .ok (.getfield 18, 3) := by decide +kernel
theorem d_S_listBest_65 : decode b_S_listBest 65 = .ok (.getfield 33, 3) := by decide +kernel
theorem d_S_listBest_68 : decode b_S_listBest 68 = .ok (.iload_n 1, 1) := by decide +kernel
theorem d_S_listBest_69 : decode b_S_listBest 69 = .ok (.iaload, 1) := by decide +kernel
theorem d_S_listBest_70 : decode b_S_listBest 70 = .ok (.iadd, 1) := by decide +kernel
theorem d_S_listBest_71 : decode b_S_listBest 71 = .ok (.putfield 70, 3) := by decide +kernel
theorem d_S_listBest_74 : decode b_S_listBest 74 = .ok (.iinc 1 1, 3) := by decide +kernel
theorem d_S_listBest_77 : decode b_S_listBest 77 = .ok (.goto (-65), 3) := by decide +kernel
theorem d_S_listBest_80 : decode b_S_listBest 80 = .ok (.return_, 1) := by decide +kernel
theorem d_S_extend_0 : decode b_S_extend 0 = .ok (.lload_n 2, 1) := by decide +kernel
theorem d_S_extend_1 : decode b_S_extend 1 = .ok (.lconst 0, 1) := by decide +kernel
theorem d_S_extend_2 : decode b_S_extend 2 = .ok (.lcmp, 1) := by decide +kernel
theorem d_S_extend_3 : decode b_S_extend 3 = .ok (.ifCond .ne 12, 3) := by decide +kernel
theorem d_S_extend_6 : decode b_S_extend 6 = .ok (.aload_n 0, 1) := by decide +kernel
theorem d_S_extend_7 : decode b_S_extend 7 = .ok (.iload 6, 2) := by decide +kernel
theorem d_S_extend_9 : decode b_S_extend 9 = .ok (.lload 7, 2) := by decide +kernel
theorem d_S_extend_11 : decode b_S_extend 11 = .ok (.invokevirtual 73, 3) := by decide +kernel
theorem d_S_extend_14 : decode b_S_extend 14 = .ok (.return_, 1) := by decide +kernel
theorem d_S_extend_15 : decode b_S_extend 15 = .ok (.iload_n 1, 1) := by decide +kernel
theorem d_S_extend_16 : decode b_S_extend 16 = .ok (.bipush 32, 2) := by decide +kernel
theorem d_S_extend_18 : decode b_S_extend 18 = .ok (.if_icmp .lt 4, 3) := by decide +kernel
theorem d_S_extend_21 : decode b_S_extend 21 = .ok (.return_, 1) := by decide +kernel
theorem d_S_extend_22 : decode b_S_extend 22 = .ok (.aload_n 0, 1) := by decide +kernel
theorem d_S_extend_23 : decode b_S_extend 23 = .ok (.lload_n 2, 1) := by decide +kernel
theorem d_S_extend_24 : decode b_S_extend 24 = .ok (.lload 4, 2) := by decide +kernel
theorem d_S_extend_26 : decode b_S_extend 26 = .ok (.invokevirtual 77, 3) := by decide +kernel
theorem d_S_extend_29 : decode b_S_extend 29 = .ok (.lstore 9, 2) := by decide +kernel
theorem d_S_extend_31 : decode b_S_extend 31 = .ok (.aload_n 0, 1) := by decide +kernel
theorem d_S_extend_32 : decode b_S_extend 32 = .ok (.iload 6, 2) := by decide +kernel
theorem d_S_extend_34 : decode b_S_extend 34 = .ok (.aload_n 0, 1) := by decide +kernel
theorem d_S_extend_35 : decode b_S_extend 35 = .ok (.lload_n 2, 1) := by decide +kernel
theorem d_S_extend_36 : decode b_S_extend 36 = .ok (.lload 9, 2) := by decide +kernel
theorem d_S_extend_38 : decode b_S_extend 38 = .ok (.invokevirtual 81, 3) := by decide +kernel
theorem d_S_extend_41 : decode b_S_extend 41 = .ok (.iadd, 1) := by decide +kernel
theorem d_S_extend_42 : decode b_S_extend 42 = .ok (.lload 7, 2) := by decide +kernel
theorem d_S_extend_44 : decode b_S_extend 44 = .ok (.lload 9, 2) := by decide +kernel
theorem d_S_extend_46 : decode b_S_extend 46 = .ok (.lor, 1) := by decide +kernel
theorem d_S_extend_47 : decode b_S_extend 47 = .ok (.invokevirtual 85, 3) := by decide +kernel
theorem d_S_extend_50 : decode b_S_extend 50 = .ok (.ifCond .ne 4, 3) := by decide +kernel
theorem d_S_extend_53 : decode b_S_extend 53 = .ok (.return_, 1) := by decide +kernel
theorem d_S_extend_54 : decode b_S_extend 54 = .ok (.aload_n 0, 1) := by decide +kernel
theorem d_S_extend_55 : decode b_S_extend 55 = .ok (.lload_n 2, 1) := by decide +kernel
theorem d_S_extend_56 : decode b_S_extend 56 = .ok (.lload 9, 2) := by decide +kernel
theorem d_S_extend_58 : decode b_S_extend 58 = .ok (.invokevirtual 89, 3) := by decide +kernel
theorem d_S_extend_61 : decode b_S_extend 61 = .ok (.lstore 11, 2) := by decide +kernel
theorem d_S_extend_63 : decode b_S_extend 63 = .ok (.iconst 0, 1) := by decide +kernel
theorem d_S_extend_64 : decode b_S_extend 64 = .ok (.istore 13, 2) := by decide +kernel
theorem d_S_extend_66 : decode b_S_extend 66 = .ok (.iload 13, 2) := by decide +kernel
theorem d_S_extend_68 : decode b_S_extend 68 = .ok (.aload_n 0, 1) := by decide +kernel
theorem d_S_extend_69 : decode b_S_extend 69 = .ok (.getfield 18, 3) := by decide +kernel
theorem d_S_extend_72 : decode b_S_extend 72 = .ok (.getfield 29, 3) := by decide +kernel
theorem d_S_extend_75 : decode b_S_extend 75 = .ok (.if_icmp .ge 76, 3) := by decide +kernel
theorem d_S_extend_78 : decode b_S_extend 78 = .ok (.lconst 1, 1) := by decide +kernel
theorem d_S_extend_79 : decode b_S_extend 79 = .ok (.iload 13, 2) := by decide +kernel
theorem d_S_extend_81 : decode b_S_extend 81 = .ok (.lshl, 1) := by decide +kernel
theorem d_S_extend_82 : decode b_S_extend 82 = .ok (.lstore 14, 2) := by decide +kernel
theorem d_S_extend_84 : decode b_S_extend 84 = .ok (.lload 11, 2) := by decide +kernel
theorem d_S_extend_86 : decode b_S_extend 86 = .ok (.lload 14, 2) := by decide +kernel
theorem d_S_extend_88 : decode b_S_extend 88 = .ok (.land, 1) := by decide +kernel
theorem d_S_extend_89 : decode b_S_extend 89 = .ok (.lconst 0, 1) := by decide +kernel
theorem d_S_extend_90 : decode b_S_extend 90 = .ok (.lcmp, 1) := by decide +kernel
theorem d_S_extend_91 : decode b_S_extend 91 = .ok (.ifCond .eq 54, 3) := by decide +kernel
theorem d_S_extend_94 : decode b_S_extend 94 = .ok (.lload 9, 2) := by decide +kernel
theorem d_S_extend_96 : decode b_S_extend 96 = .ok (.lload 14, 2) := by decide +kernel
theorem d_S_extend_98 : decode b_S_extend 98 = .ok (.ldc2_w 92, 3) := by decide +kernel
theorem d_S_extend_101 : decode b_S_extend 101 = .ok (.lxor, 1) := by decide +kernel
theorem d_S_extend_102 : decode b_S_extend 102 = .ok (.land, 1) := by decide +kernel
theorem d_S_extend_103 : decode b_S_extend 103 = .ok (.lstore 9, 2) := by decide +kernel
theorem d_S_extend_105 : decode b_S_extend 105 = .ok (.aload_n 0, 1) := by decide +kernel
theorem d_S_extend_106 : decode b_S_extend 106 = .ok (.iload_n 1, 1) := by decide +kernel
theorem d_S_extend_107 : decode b_S_extend 107 = .ok (.iconst 1, 1) := by decide +kernel
theorem d_S_extend_108 : decode b_S_extend 108 = .ok (.iadd, 1) := by decide +kernel
theorem d_S_extend_109 : decode b_S_extend 109 = .ok (.lload_n 2, 1) := by decide +kernel
theorem d_S_extend_110 : decode b_S_extend 110 = .ok (.aload_n 0, 1) := by decide +kernel
theorem d_S_extend_111 : decode b_S_extend 111 = .ok (.getfield 18, 3) := by decide +kernel
theorem d_S_extend_114 : decode b_S_extend 114 = .ok (.getfield 67, 3) := by decide +kernel
theorem d_S_extend_117 : decode b_S_extend 117 = .ok (.iload 13, 2) := by decide +kernel
theorem d_S_extend_119 : decode b_S_extend 119 = .ok (.laload, 1) := by decide +kernel
theorem d_S_extend_120 : decode b_S_extend 120 = .ok (.ldc2_w 92, 3) := by decide +kernel
theorem d_S_extend_123 : decode b_S_extend 123 = .ok (.lxor, 1) := by decide +kernel
theorem d_S_extend_124 : decode b_S_extend 124 = .ok (.land, 1) := by decide +kernel
theorem d_S_extend_125 : decode b_S_extend 125 = .ok (.lload 9, 2) := by decide +kernel
theorem d_S_extend_127 : decode b_S_extend 127 = .ok (.iload 6, 2) := by decide +kernel
theorem d_S_extend_129 : decode b_S_extend 129 = .ok (.aload_n 0, 1) := by decide +kernel
theorem d_S_extend_130 : decode b_S_extend 130 = .ok (.getfield 22, 3) := by decide +kernel
theorem d_S_extend_133 : decode b_S_extend 133 = .ok (.iload 13, 2) := by decide +kernel
theorem d_S_extend_135 : decode b_S_extend 135 = .ok (.iaload, 1) := by decide +kernel
theorem d_S_extend_136 : decode b_S_extend 136 = .ok (.iadd, 1) := by decide +kernel
theorem d_S_extend_137 : decode b_S_extend 137 = .ok (.lload 7, 2) := by decide +kernel
theorem d_S_extend_139 : decode b_S_extend 139 = .ok (.lload 14, 2) := by decide +kernel
theorem d_S_extend_141 : decode b_S_extend 141 = .ok (.lor, 1) := by decide +kernel
theorem d_S_extend_142 : decode b_S_extend 142 = .ok (.invokevirtual 51, 3) := by decide +kernel
theorem d_S_extend_145 : decode b_S_extend 145 = .ok (.iinc 13 1, 3) := by decide +kernel
theorem d_S_extend_148 : decode b_S_extend 148 = .ok (.goto (-82), 3) := by decide +kernel
theorem d_S_extend_151 : decode b_S_extend 151 = .ok (.return_, 1) := by decide +kernel
theorem d_S_keepIfBetter_0 : decode b_S_keepIfBetter 0 = .ok (.aload_n 0, 1) := by decide +kernel
theorem d_S_keepIfBetter_1 : decode b_S_keepIfBetter 1 = .ok (.iload_n 1, 1) := by decide +kernel
theorem d_S_keepIfBetter_2 : decode b_S_keepIfBetter 2 = .ok (.lload_n 2, 1) := by decide +kernel
theorem d_S_keepIfBetter_3 : decode b_S_keepIfBetter 3 = .ok (.invokevirtual 85, 3) := by decide +kernel
theorem d_S_keepIfBetter_6 : decode b_S_keepIfBetter 6 = .ok (.ifCond .eq 13, 3) := by decide +kernel
theorem d_S_keepIfBetter_9 : decode b_S_keepIfBetter 9 = .ok (.aload_n 0, 1) := by decide +kernel
theorem d_S_keepIfBetter_10 : decode b_S_keepIfBetter 10 = .ok (.iload_n 1, 1) := by decide +kernel
theorem d_S_keepIfBetter_11 : decode b_S_keepIfBetter 11 = .ok (.putfield 41, 3) := by decide +kernel
theorem d_S_keepIfBetter_14 : decode b_S_keepIfBetter 14 = .ok (.aload_n 0, 1) := by decide +kernel
theorem d_S_keepIfBetter_15 : decode b_S_keepIfBetter 15 = .ok (.lload_n 2, 1) := by decide +kernel
theorem d_S_keepIfBetter_16 : decode b_S_keepIfBetter 16 = .ok (.putfield 44, 3) := by decide +kernel
theorem d_S_keepIfBetter_19 : decode b_S_keepIfBetter 19 = .ok (.return_, 1) := by decide +kernel
theorem d_S_isBetterThanBest_0 : decode b_S_isBetterThanBest 0 = .ok (.lload_n 2, 1) := by decide +kernel
theorem d_S_isBetterThanBest_1 : decode b_S_isBetterThanBest 1 = .ok (.aload_n 0, 1) := by decide +kernel
theorem d_S_isBetterThanBest_2 : decode b_S_isBetterThanBest 2 = .ok (.getfield 44, 3) := by decide +kernel
theorem d_S_isBetterThanBest_5 : decode b_S_isBetterThanBest 5 = .ok (.lxor, 1) := by decide +kernel
theorem d_S_isBetterThanBest_6 : decode b_S_isBetterThanBest 6 = .ok (.lstore 4, 2) := by decide +kernel
theorem d_S_isBetterThanBest_8 : decode b_S_isBetterThanBest 8 = .ok (.lload 4, 2) := by decide +kernel
theorem d_S_isBetterThanBest_10 : decode b_S_isBetterThanBest 10 = .ok (.lload 4, 2) := by decide +kernel
theorem d_S_isBetterThanBest_12 : decode b_S_isBetterThanBest 12 = .ok (.lneg, 1) := by decide +kernel
theorem d_S_isBetterThanBest_13 : decode b_S_isBetterThanBest 13 = .ok (.land, 1) := by decide +kernel
theorem d_S_isBetterThanBest_14 : decode b_S_isBetterThanBest 14 = .ok (.lstore 6, 2) := by decide +kernel
theorem d_S_isBetterThanBest_16 : decode b_S_isBetterThanBest 16 = .ok (.iload_n 1, 1) := by decide +kernel
theorem d_S_isBetterThanBest_17 : decode b_S_isBetterThanBest 17 = .ok (.aload_n 0, 1) := by decide +kernel
theorem d_S_isBetterThanBest_18 : decode b_S_isBetterThanBest 18 = .ok (.getfield 41, 3) := by decide +kernel
theorem d_S_isBetterThanBest_21 : decode b_S_isBetterThanBest 21 = .ok (.if_icmp .lt 20, 3) := by decide +kernel
theorem d_S_isBetterThanBest_24 : decode b_S_isBetterThanBest 24 = .ok (.iload_n 1, 1) := by decide +kernel
theorem d_S_isBetterThanBest_25 : decode b_S_isBetterThanBest 25 = .ok (.aload_n 0, 1) := by decide +kernel
theorem d_S_isBetterThanBest_26 : decode b_S_isBetterThanBest 26 = .ok (.getfield 41, 3) := by decide +kernel
theorem d_S_isBetterThanBest_29 : decode b_S_isBetterThanBest 29 = .ok (.if_icmp .ne 16, 3) := by decide +kernel
theorem d_S_isBetterThanBest_32 : decode b_S_isBetterThanBest 32 = .ok (.lload_n 2, 1) := by decide +kernel
theorem d_S_isBetterThanBest_33 : decode b_S_isBetterThanBest 33 = .ok (.lload 6, 2) := by decide +kernel
theorem d_S_isBetterThanBest_35 : decode b_S_isBetterThanBest 35 = .ok (.land, 1) := by decide +kernel
theorem d_S_isBetterThanBest_36 : decode b_S_isBetterThanBest 36 = .ok (.lconst 0, 1) := by decide +kernel
theorem d_S_isBetterThanBest_37 : decode b_S_isBetterThanBest 37 = .ok (.lcmp, 1) := by decide +kernel
theorem d_S_isBetterThanBest_38 : decode b_S_isBetterThanBest 38 = .ok (.ifCond .eq 7, 3) := by decide +kernel
theorem d_S_isBetterThanBest_41 : decode b_S_isBetterThanBest 41 = .ok (.iconst 1, 1) := by decide +kernel
theorem d_S_isBetterThanBest_42 : decode b_S_isBetterThanBest 42 = .ok (.goto 4, 3) := by decide +kernel
theorem d_S_isBetterThanBest_45 : decode b_S_isBetterThanBest 45 = .ok (.iconst 0, 1) := by decide +kernel
theorem d_S_isBetterThanBest_46 : decode b_S_isBetterThanBest 46 = .ok (.ireturn, 1) := by decide +kernel
theorem d_S_withoutDominated_0 : decode b_S_withoutDominated 0 = .ok (.lload_n 3, 1) := by decide +kernel
theorem d_S_withoutDominated_1 : decode b_S_withoutDominated 1 = .ok (.lstore 5, 2) := by decide +kernel
theorem d_S_withoutDominated_3 : decode b_S_withoutDominated 3 = .ok (.iconst 0, 1) := by decide +kernel
theorem d_S_withoutDominated_4 : decode b_S_withoutDominated 4 = .ok (.istore 7, 2) := by decide +kernel
theorem d_S_withoutDominated_6 : decode b_S_withoutDominated 6 = .ok (.iload 7, 2) := by decide +kernel
theorem d_S_withoutDominated_8 : decode b_S_withoutDominated 8 = .ok (.aload_n 0, 1) := by decide +kernel
theorem d_S_withoutDominated_9 : decode b_S_withoutDominated 9 = .ok (.getfield 18, 3) := by decide +kernel
theorem d_S_withoutDominated_12 : decode b_S_withoutDominated 12 = .ok (.getfield 29, 3) := by decide +kernel
theorem d_S_withoutDominated_15 : decode b_S_withoutDominated 15 = .ok (.if_icmp .ge 45, 3) := by decide +kernel
theorem d_S_withoutDominated_18 : decode b_S_withoutDominated 18 = .ok (.lload_n 3, 1) := by decide +kernel
theorem d_S_withoutDominated_19 : decode b_S_withoutDominated 19 = .ok (.iload 7, 2) := by decide +kernel
theorem d_S_withoutDominated_21 : decode b_S_withoutDominated 21 = .ok (.lshr, 1) := by decide +kernel
theorem d_S_withoutDominated_22 : decode b_S_withoutDominated 22 = .ok (.lconst 1, 1) := by decide +kernel
theorem d_S_withoutDominated_23 : decode b_S_withoutDominated 23 = .ok (.land, 1) := by decide +kernel
theorem d_S_withoutDominated_24 : decode b_S_withoutDominated 24 = .ok (.lconst 0, 1) := by decide +kernel
theorem d_S_withoutDominated_25 : decode b_S_withoutDominated 25 = .ok (.lcmp, 1) := by decide +kernel
theorem d_S_withoutDominated_26 : decode b_S_withoutDominated 26 = .ok (.ifCond .eq 28, 3) := by decide +kernel
theorem d_S_withoutDominated_29 : decode b_S_withoutDominated 29 = .ok (.aload_n 0, 1) := by decide +kernel
theorem d_S_withoutDominated_30 : decode b_S_withoutDominated 30 = .ok (.iload 7, 2) := by decide +kernel
theorem d_S_withoutDominated_32 : decode b_S_withoutDominated 32 = .ok (.lload_n 1, 1) := by decide +kernel
theorem d_S_withoutDominated_33 : decode b_S_withoutDominated 33 = .ok (.lload 5, 2) := by decide +kernel
theorem d_S_withoutDominated_35 : decode b_S_withoutDominated 35 = .ok (.invokevirtual 94, 3) := by decide +kernel
theorem d_S_withoutDominated_38 : decode b_S_withoutDominated 38 = .ok (.ifCond .eq 16, 3) := by decide +kernel
theorem d_S_withoutDominated_41 : decode b_S_withoutDominated 41 = .ok (.lload 5, 2) := by decide +kernel
theorem d_S_withoutDominated_43 : decode b_S_withoutDominated 43 = .ok (.lconst 1, 1) := by decide +kernel
theorem d_S_withoutDominated_44 : decode b_S_withoutDominated 44 = .ok (.iload 7, 2) := by decide +kernel
theorem d_S_withoutDominated_46 : decode b_S_withoutDominated 46 = .ok (.lshl, 1) := by decide +kernel
theorem d_S_withoutDominated_47 : decode b_S_withoutDominated 47 = .ok (.ldc2_w 92, 3) := by decide +kernel
theorem d_S_withoutDominated_50 : decode b_S_withoutDominated 50 = .ok (.lxor, 1) := by decide +kernel
theorem d_S_withoutDominated_51 : decode b_S_withoutDominated 51 = .ok (.land, 1) := by decide +kernel
theorem d_S_withoutDominated_52 : decode b_S_withoutDominated 52 = .ok (.lstore 5, 2) := by decide +kernel
theorem d_S_withoutDominated_54 : decode b_S_withoutDominated 54 = .ok (.iinc 7 1, 3) := by decide +kernel
theorem d_S_withoutDominated_57 : decode b_S_withoutDominated 57 = .ok (.goto (-51), 3) := by decide +kernel
theorem d_S_withoutDominated_60 : decode b_S_withoutDominated 60 = .ok (.lload 5, 2) := by decide +kernel
theorem d_S_withoutDominated_62 : decode b_S_withoutDominated 62 = .ok (.lreturn, 1) := by decide +kernel
theorem d_S_isDominated_0 : decode b_S_isDominated 0 = .ok (.aload_n 0, 1) := by decide +kernel
theorem d_S_isDominated_1 : decode b_S_isDominated 1 = .ok (.getfield 18, 3) := by decide +kernel
theorem d_S_isDominated_4 : decode b_S_isDominated 4 = .ok (.getfield 67, 3) := by decide +kernel
theorem d_S_isDominated_7 : decode b_S_isDominated 7 = .ok (.iload_n 1, 1) := by decide +kernel
theorem d_S_isDominated_8 : decode b_S_isDominated 8 = .ok (.laload, 1) := by decide +kernel
theorem d_S_isDominated_9 : decode b_S_isDominated 9 = .ok (.lload_n 2, 1) := by decide +kernel
theorem d_S_isDominated_10 : decode b_S_isDominated 10 = .ok (.land, 1) := by decide +kernel
theorem d_S_isDominated_11 : decode b_S_isDominated 11 = .ok (.lstore 6, 2) := by decide +kernel
theorem d_S_isDominated_13 : decode b_S_isDominated 13 = .ok (.lload 6, 2) := by decide +kernel
theorem d_S_isDominated_15 : decode b_S_isDominated 15 = .ok (.lconst 0, 1) := by decide +kernel
theorem d_S_isDominated_16 : decode b_S_isDominated 16 = .ok (.lcmp, 1) := by decide +kernel
theorem d_S_isDominated_17 : decode b_S_isDominated 17 = .ok (.ifCond .ne 5, 3) := by decide +kernel
theorem d_S_isDominated_20 : decode b_S_isDominated 20 = .ok (.iconst 1, 1) := by decide +kernel
theorem d_S_isDominated_21 : decode b_S_isDominated 21 = .ok (.ireturn, 1) := by decide +kernel
theorem d_S_isDominated_22 : decode b_S_isDominated 22 = .ok (.iconst 0, 1) := by decide +kernel
theorem d_S_isDominated_23 : decode b_S_isDominated 23 = .ok (.istore 8, 2) := by decide +kernel
theorem d_S_isDominated_25 : decode b_S_isDominated 25 = .ok (.iload 8, 2) := by decide +kernel
theorem d_S_isDominated_27 : decode b_S_isDominated 27 = .ok (.aload_n 0, 1) := by decide +kernel
theorem d_S_isDominated_28 : decode b_S_isDominated 28 = .ok (.getfield 18, 3) := by decide +kernel
theorem d_S_isDominated_31 : decode b_S_isDominated 31 = .ok (.getfield 29, 3) := by decide +kernel
theorem d_S_isDominated_34 : decode b_S_isDominated 34 = .ok (.if_icmp .ge 95, 3) := by decide +kernel
theorem d_S_isDominated_37 : decode b_S_isDominated 37 = .ok (.lload 4, 2) := by decide +kernel
theorem d_S_isDominated_39 : decode b_S_isDominated 39 = .ok (.iload 8, 2) := by decide +kernel
theorem d_S_isDominated_41 : decode b_S_isDominated 41 = .ok (.lshr, 1) := by decide +kernel
theorem d_S_isDominated_42 : decode b_S_isDominated 42 = .ok (.lconst 1, 1) := by decide +kernel
theorem d_S_isDominated_43 : decode b_S_isDominated 43 = .ok (.land, 1) := by decide +kernel
theorem d_S_isDominated_44 : decode b_S_isDominated 44 = .ok (.lconst 0, 1) := by decide +kernel
theorem d_S_isDominated_45 : decode b_S_isDominated 45 = .ok (.lcmp, 1) := by decide +kernel
theorem d_S_isDominated_46 : decode b_S_isDominated 46 = .ok (.ifCond .eq 29, 3) := by decide +kernel
theorem d_S_isDominated_49 : decode b_S_isDominated 49 = .ok (.lload 6, 2) := by decide +kernel
theorem d_S_isDominated_51 : decode b_S_isDominated 51 = .ok (.aload_n 0, 1) := by decide +kernel
theorem d_S_isDominated_52 : decode b_S_isDominated 52 = .ok (.getfield 18, 3) := by decide +kernel
theorem d_S_isDominated_55 : decode b_S_isDominated 55 = .ok (.getfield 67, 3) := by decide +kernel
theorem d_S_isDominated_58 : decode b_S_isDominated 58 = .ok (.iload 8, 2) := by decide +kernel
theorem d_S_isDominated_60 : decode b_S_isDominated 60 = .ok (.laload, 1) := by decide +kernel
theorem d_S_isDominated_61 : decode b_S_isDominated 61 = .ok (.ldc2_w 92, 3) := by decide +kernel
theorem d_S_isDominated_64 : decode b_S_isDominated 64 = .ok (.lxor, 1) := by decide +kernel
theorem d_S_isDominated_65 : decode b_S_isDominated 65 = .ok (.land, 1) := by decide +kernel
theorem d_S_isDominated_66 : decode b_S_isDominated 66 = .ok (.lconst 0, 1) := by decide +kernel
theorem d_S_isDominated_67 : decode b_S_isDominated 67 = .ok (.lcmp, 1) := by decide +kernel
theorem d_S_isDominated_68 : decode b_S_isDominated 68 = .ok (.ifCond .ne 7, 3) := by decide +kernel
theorem d_S_isDominated_71 : decode b_S_isDominated 71 = .ok (.iconst 1, 1) := by decide +kernel
theorem d_S_isDominated_72 : decode b_S_isDominated 72 = .ok (.goto 4, 3) := by decide +kernel
theorem d_S_isDominated_75 : decode b_S_isDominated 75 = .ok (.iconst 0, 1) := by decide +kernel
theorem d_S_isDominated_76 : decode b_S_isDominated 76 = .ok (.istore 9, 2) := by decide +kernel
theorem d_S_isDominated_78 : decode b_S_isDominated 78 = .ok (.iload 9, 2) := by decide +kernel
theorem d_S_isDominated_80 : decode b_S_isDominated 80 = .ok (.ifCond .eq 43, 3) := by decide +kernel
theorem d_S_isDominated_83 : decode b_S_isDominated 83 = .ok (.aload_n 0, 1) := by decide +kernel
theorem d_S_isDominated_84 : decode b_S_isDominated 84 = .ok (.getfield 22, 3) := by decide +kernel
theorem d_S_isDominated_87 : decode b_S_isDominated 87 = .ok (.iload 8, 2) := by decide +kernel
theorem d_S_isDominated_89 : decode b_S_isDominated 89 = .ok (.iaload, 1) := by decide +kernel
theorem d_S_isDominated_90 : decode b_S_isDominated 90 = .ok (.aload_n 0, 1) := by decide +kernel
theorem d_S_isDominated_91 : decode b_S_isDominated 91 = .ok (.getfield 22, 3) := by decide +kernel
theorem d_S_isDominated_94 : decode b_S_isDominated 94 = .ok (.iload_n 1, 1) := by decide +kernel
theorem d_S_isDominated_95 : decode b_S_isDominated 95 = .ok (.iaload, 1) := by decide +kernel
theorem d_S_isDominated_96 : decode b_S_isDominated 96 = .ok (.if_icmp .lt 25, 3) := by decide +kernel
theorem d_S_isDominated_99 : decode b_S_isDominated 99 = .ok (.aload_n 0, 1) := by decide +kernel
theorem d_S_isDominated_100 : decode b_S_isDominated 100 = .ok (.getfield 22, 3) := by decide +kernel
theorem d_S_isDominated_103 : decode b_S_isDominated 103 = .ok (.iload 8, 2) := by decide +kernel
theorem d_S_isDominated_105 : decode b_S_isDominated 105 = .ok (.iaload, 1) := by decide +kernel
theorem d_S_isDominated_106 : decode b_S_isDominated 106 = .ok (.aload_n 0, 1) := by decide +kernel
theorem d_S_isDominated_107 : decode b_S_isDominated 107 = .ok (.getfield 22, 3) := by decide +kernel
theorem d_S_isDominated_110 : decode b_S_isDominated 110 = .ok (.iload_n 1, 1) := by decide +kernel
theorem d_S_isDominated_111 : decode b_S_isDominated 111 = .ok (.iaload, 1) := by decide +kernel
theorem d_S_isDominated_112 : decode b_S_isDominated 112 = .ok (.if_icmp .ne 11, 3) := by decide +kernel
theorem d_S_isDominated_115 : decode b_S_isDominated 115 = .ok (.iload 8, 2) := by decide +kernel
theorem d_S_isDominated_117 : decode b_S_isDominated 117 = .ok (.iload_n 1, 1) := by decide +kernel
theorem d_S_isDominated_118 : decode b_S_isDominated 118 = .ok (.if_icmp .ge 5, 3) := by decide +kernel
theorem d_S_isDominated_121 : decode b_S_isDominated 121 = .ok (.iconst 1, 1) := by decide +kernel
theorem d_S_isDominated_122 : decode b_S_isDominated 122 = .ok (.ireturn, 1) := by decide +kernel
theorem d_S_isDominated_123 : decode b_S_isDominated 123 = .ok (.iinc 8 1, 3) := by decide +kernel
theorem d_S_isDominated_126 : decode b_S_isDominated 126 = .ok (.goto (-101), 3) := by decide +kernel
theorem d_S_isDominated_129 : decode b_S_isDominated 129 = .ok (.iconst 0, 1) := by decide +kernel
theorem d_S_isDominated_130 : decode b_S_isDominated 130 = .ok (.ireturn, 1) := by decide +kernel
theorem d_S_weightToCome_0 : decode b_S_weightToCome 0 = .ok (.lconst 0, 1) := by decide +kernel
theorem d_S_weightToCome_1 : decode b_S_weightToCome 1 = .ok (.lstore 5, 2) := by decide +kernel
theorem d_S_weightToCome_3 : decode b_S_weightToCome 3 = .ok (.iconst 0, 1) := by decide +kernel
theorem d_S_weightToCome_4 : decode b_S_weightToCome 4 = .ok (.istore 7, 2) := by decide +kernel
theorem d_S_weightToCome_6 : decode b_S_weightToCome 6 = .ok (.iconst 0, 1) := by decide +kernel
theorem d_S_weightToCome_7 : decode b_S_weightToCome 7 = .ok (.istore 8, 2) := by decide +kernel
theorem d_S_weightToCome_9 : decode b_S_weightToCome 9 = .ok (.iload 8, 2) := by decide +kernel
theorem d_S_weightToCome_11 : decode b_S_weightToCome 11 = .ok (.bipush 32, 2) := by decide +kernel
theorem d_S_weightToCome_13 : decode b_S_weightToCome 13 = .ok (.if_icmp .ge 59, 3) := by decide +kernel
theorem d_S_weightToCome_16 : decode b_S_weightToCome 16 = .ok (.aload_n 0, 1) := by decide +kernel
theorem d_S_weightToCome_17 : decode b_S_weightToCome 17 = .ok (.getfield 25, 3) := by decide +kernel
theorem d_S_weightToCome_20 : decode b_S_weightToCome 20 = .ok (.iload 8, 2) := by decide +kernel
theorem d_S_weightToCome_22 : decode b_S_weightToCome 22 = .ok (.laload, 1) := by decide +kernel
theorem d_S_weightToCome_23 : decode b_S_weightToCome 23 = .ok (.lload_n 3, 1) := by decide +kernel
theorem d_S_weightToCome_24 : decode b_S_weightToCome 24 = .ok (.land, 1) := by decide +kernel
theorem d_S_weightToCome_25 : decode b_S_weightToCome 25 = .ok (.lstore 9, 2) := by decide +kernel
theorem d_S_weightToCome_27 : decode b_S_weightToCome 27 = .ok (.lload_n 1, 1) := by decide +kernel
theorem d_S_weightToCome_28 : decode b_S_weightToCome 28 = .ok (.iload 8, 2) := by decide +kernel
theorem d_S_weightToCome_30 : decode b_S_weightToCome 30 = .ok (.lshr, 1) := by decide +kernel
theorem d_S_weightToCome_31 : decode b_S_weightToCome 31 = .ok (.lconst 1, 1) := by decide +kernel
theorem d_S_weightToCome_32 : decode b_S_weightToCome 32 = .ok (.land, 1) := by decide +kernel
theorem d_S_weightToCome_33 : decode b_S_weightToCome 33 = .ok (.lconst 0, 1) := by decide +kernel
theorem d_S_weightToCome_34 : decode b_S_weightToCome 34 = .ok (.lcmp, 1) := by decide +kernel
theorem d_S_weightToCome_35 : decode b_S_weightToCome 35 = .ok (.ifCond .eq 31, 3) := by decide +kernel
theorem d_S_weightToCome_38 : decode b_S_weightToCome 38 = .ok (.lload 9, 2) := by decide +kernel
theorem d_S_weightToCome_40 : decode b_S_weightToCome 40 = .ok (.lload 5, 2) := by decide +kernel
theorem d_S_weightToCome_42 : decode b_S_weightToCome 42 = .ok (.land, 1) := by decide +kernel
theorem d_S_weightToCome_43 : decode b_S_weightToCome 43 = .ok (.lconst 0, 1) := by decide +kernel
theorem d_S_weightToCome_44 : decode b_S_weightToCome 44 = .ok (.lcmp, 1) := by decide +kernel
theorem d_S_weightToCome_45 : decode b_S_weightToCome 45 = .ok (.ifCond .ne 21, 3) := by decide +kernel
theorem d_S_weightToCome_48 : decode b_S_weightToCome 48 = .ok (.lload 5, 2) := by decide +kernel
theorem d_S_weightToCome_50 : decode b_S_weightToCome 50 = .ok (.lload 9, 2) := by decide +kernel
theorem d_S_weightToCome_52 : decode b_S_weightToCome 52 = .ok (.lor, 1) := by decide +kernel
theorem d_S_weightToCome_53 : decode b_S_weightToCome 53 = .ok (.lstore 5, 2) := by decide +kernel
theorem d_S_weightToCome_55 : decode b_S_weightToCome 55 = .ok (.iload 7, 2) := by decide +kernel
theorem d_S_weightToCome_57 : decode b_S_weightToCome 57 = .ok (.aload_n 0, 1) := by decide +kernel
theorem d_S_weightToCome_58 : decode b_S_weightToCome 58 = .ok (.lload 9, 2) := by decide +kernel
theorem d_S_weightToCome_60 : decode b_S_weightToCome 60 = .ok (.invokevirtual 98, 3) := by decide +kernel
theorem d_S_weightToCome_63 : decode b_S_weightToCome 63 = .ok (.iadd, 1) := by decide +kernel
theorem d_S_weightToCome_64 : decode b_S_weightToCome 64 = .ok (.istore 7, 2) := by decide +kernel
theorem d_S_weightToCome_66 : decode b_S_weightToCome 66 = .ok (.iinc 8 1, 3) := by decide +kernel
theorem d_S_weightToCome_69 : decode b_S_weightToCome 69 = .ok (.goto (-60), 3) := by decide +kernel
theorem d_S_weightToCome_72 : decode b_S_weightToCome 72 = .ok (.iload 7, 2) := by decide +kernel
theorem d_S_weightToCome_74 : decode b_S_weightToCome 74 = .ok (.ireturn, 1) := by decide +kernel
theorem d_S_lightestOf_0 : decode b_S_lightestOf 0 = .ok (.ldc 40, 2) := by decide +kernel
theorem d_S_lightestOf_2 : decode b_S_lightestOf 2 = .ok (.istore_n 3, 1) := by decide +kernel
theorem d_S_lightestOf_3 : decode b_S_lightestOf 3 = .ok (.iconst 0, 1) := by decide +kernel
theorem d_S_lightestOf_4 : decode b_S_lightestOf 4 = .ok (.istore 4, 2) := by decide +kernel
theorem d_S_lightestOf_6 : decode b_S_lightestOf 6 = .ok (.iload 4, 2) := by decide +kernel
theorem d_S_lightestOf_8 : decode b_S_lightestOf 8 = .ok (.aload_n 0, 1) := by decide +kernel
theorem d_S_lightestOf_9 : decode b_S_lightestOf 9 = .ok (.getfield 18, 3) := by decide +kernel
theorem d_S_lightestOf_12 : decode b_S_lightestOf 12 = .ok (.getfield 29, 3) := by decide +kernel
theorem d_S_lightestOf_15 : decode b_S_lightestOf 15 = .ok (.if_icmp .ge 32, 3) := by decide +kernel
theorem d_S_lightestOf_18 : decode b_S_lightestOf 18 = .ok (.lload_n 1, 1) := by decide +kernel
theorem d_S_lightestOf_19 : decode b_S_lightestOf 19 = .ok (.iload 4, 2) := by decide +kernel
theorem d_S_lightestOf_21 : decode b_S_lightestOf 21 = .ok (.lshr, 1) := by decide +kernel
theorem d_S_lightestOf_22 : decode b_S_lightestOf 22 = .ok (.lconst 1, 1) := by decide +kernel
theorem d_S_lightestOf_23 : decode b_S_lightestOf 23 = .ok (.land, 1) := by decide +kernel
theorem d_S_lightestOf_24 : decode b_S_lightestOf 24 = .ok (.lconst 0, 1) := by decide +kernel
theorem d_S_lightestOf_25 : decode b_S_lightestOf 25 = .ok (.lcmp, 1) := by decide +kernel
theorem d_S_lightestOf_26 : decode b_S_lightestOf 26 = .ok (.ifCond .eq 15, 3) := by decide +kernel
theorem d_S_lightestOf_29 : decode b_S_lightestOf 29 = .ok (.iload_n 3, 1) := by decide +kernel
theorem d_S_lightestOf_30 : decode b_S_lightestOf 30 = .ok (.aload_n 0, 1) := by decide +kernel
theorem d_S_lightestOf_31 : decode b_S_lightestOf 31 = .ok (.getfield 22, 3) := by decide +kernel
theorem d_S_lightestOf_34 : decode b_S_lightestOf 34 = .ok (.iload 4, 2) := by decide +kernel
theorem d_S_lightestOf_36 : decode b_S_lightestOf 36 = .ok (.iaload, 1) := by decide +kernel
theorem d_S_lightestOf_37 : decode b_S_lightestOf 37 = .ok (.invokestatic 102, 3) := by decide +kernel
theorem d_S_lightestOf_40 : decode b_S_lightestOf 40 = .ok (.istore_n 3, 1) := by decide +kernel
theorem d_S_lightestOf_41 : decode b_S_lightestOf 41 = .ok (.iinc 4 1, 3) := by decide +kernel
theorem d_S_lightestOf_44 : decode b_S_lightestOf 44 = .ok (.goto (-38), 3) := by decide +kernel
theorem d_S_lightestOf_47 : decode b_S_lightestOf 47 = .ok (.iload_n 3, 1) := by decide +kernel
theorem d_S_lightestOf_48 : decode b_S_lightestOf 48 = .ok (.ireturn, 1) := by decide +kernel
theorem d_S_fewestServers_0 : decode b_S_fewestServers 0 = .ok (.lload_n 3, 1) := by decide +kernel
theorem d_S_fewestServers_1 : decode b_S_fewestServers 1 = .ok (.lstore 5, 2) := by decide +kernel
theorem d_S_fewestServers_3 : decode b_S_fewestServers 3 = .ok (.iconst 0, 1) := by decide +kernel
theorem d_S_fewestServers_4 : decode b_S_fewestServers 4 = .ok (.istore 7, 2) := by decide +kernel
theorem d_S_fewestServers_6 : decode b_S_fewestServers 6 = .ok (.iload 7, 2) := by decide +kernel
theorem d_S_fewestServers_8 : decode b_S_fewestServers 8 = .ok (.bipush 32, 2) := by decide +kernel
theorem d_S_fewestServers_10 : decode b_S_fewestServers 10 = .ok (.if_icmp .ge 48, 3) := by decide +kernel
theorem d_S_fewestServers_13 : decode b_S_fewestServers 13 = .ok (.aload_n 0, 1) := by decide +kernel
theorem d_S_fewestServers_14 : decode b_S_fewestServers 14 = .ok (.getfield 25, 3) := by decide +kernel
theorem d_S_fewestServers_17 : decode b_S_fewestServers 17 = .ok (.iload 7, 2) := by decide +kernel
theorem d_S_fewestServers_19 : decode b_S_fewestServers 19 = .ok (.laload, 1) := by decide +kernel
theorem d_S_fewestServers_20 : decode b_S_fewestServers 20 = .ok (.lload_n 3, 1) := by decide +kernel
theorem d_S_fewestServers_21 : decode b_S_fewestServers 21 = .ok (.land, 1) := by decide +kernel
theorem d_S_fewestServers_22 : decode b_S_fewestServers 22 = .ok (.lstore 8, 2) := by decide +kernel
theorem d_S_fewestServers_24 : decode b_S_fewestServers 24 = .ok (.lload_n 1, 1) := by decide +kernel
theorem d_S_fewestServers_25 : decode b_S_fewestServers 25 = .ok (.iload 7, 2) := by decide +kernel
theorem d_S_fewestServers_27 : decode b_S_fewestServers 27 = .ok (.lshr, 1) := by decide +kernel
theorem d_S_fewestServers_28 : decode b_S_fewestServers 28 = .ok (.lconst 1, 1) := by decide +kernel
theorem d_S_fewestServers_29 : decode b_S_fewestServers 29 = .ok (.land, 1) := by decide +kernel
theorem d_S_fewestServers_30 : decode b_S_fewestServers 30 = .ok (.lconst 0, 1) := by decide +kernel
theorem d_S_fewestServers_31 : decode b_S_fewestServers 31 = .ok (.lcmp, 1) := by decide +kernel
theorem d_S_fewestServers_32 : decode b_S_fewestServers 32 = .ok (.ifCond .eq 20, 3) := by decide +kernel
theorem d_S_fewestServers_35 : decode b_S_fewestServers 35 = .ok (.lload 8, 2) := by decide +kernel
theorem d_S_fewestServers_37 : decode b_S_fewestServers 37 = .ok (.invokestatic 108, 3) := by decide +kernel
theorem d_S_fewestServers_40 : decode b_S_fewestServers 40 = .ok (.lload 5, 2) := by decide +kernel
theorem d_S_fewestServers_42 : decode b_S_fewestServers 42 = .ok (.invokestatic 108, 3) := by decide +kernel
theorem d_S_fewestServers_45 : decode b_S_fewestServers 45 = .ok (.if_icmp .ge 7, 3) := by decide +kernel
theorem d_S_fewestServers_48 : decode b_S_fewestServers 48 = .ok (.lload 8, 2) := by decide +kernel
theorem d_S_fewestServers_50 : decode b_S_fewestServers 50 = .ok (.lstore 5, 2) := by decide +kernel
theorem d_S_fewestServers_52 : decode b_S_fewestServers 52 = .ok (.iinc 7 1, 3) := by decide +kernel
theorem d_S_fewestServers_55 : decode b_S_fewestServers 55 = .ok (.goto (-49), 3) := by decide +kernel
theorem d_S_fewestServers_58 : decode b_S_fewestServers 58 = .ok (.lload 5, 2) := by decide +kernel
theorem d_S_fewestServers_60 : decode b_S_fewestServers 60 = .ok (.lreturn, 1) := by decide +kernel
theorem d_J_bitCount_0 : decode b_J_bitCount 0 = .ok (.lload_n 0, 1) := by decide +kernel
theorem d_J_bitCount_1 : decode b_J_bitCount 1 = .ok (.lload_n 0, 1) := by decide +kernel
theorem d_J_bitCount_2 : decode b_J_bitCount 2 = .ok (.iconst 1, 1) := by decide +kernel
theorem d_J_bitCount_3 : decode b_J_bitCount 3 = .ok (.lushr, 1) := by decide +kernel
theorem d_J_bitCount_4 : decode b_J_bitCount 4 = .ok (.ldc2_w 314, 3) := by decide +kernel
theorem d_J_bitCount_7 : decode b_J_bitCount 7 = .ok (.land, 1) := by decide +kernel
theorem d_J_bitCount_8 : decode b_J_bitCount 8 = .ok (.lsub, 1) := by decide +kernel
theorem d_J_bitCount_9 : decode b_J_bitCount 9 = .ok (.lstore_n 0, 1) := by decide +kernel
theorem d_J_bitCount_10 : decode b_J_bitCount 10 = .ok (.lload_n 0, 1) := by decide +kernel
theorem d_J_bitCount_11 : decode b_J_bitCount 11 = .ok (.ldc2_w 316, 3) := by decide +kernel
theorem d_J_bitCount_14 : decode b_J_bitCount 14 = .ok (.land, 1) := by decide +kernel
theorem d_J_bitCount_15 : decode b_J_bitCount 15 = .ok (.lload_n 0, 1) := by decide +kernel
theorem d_J_bitCount_16 : decode b_J_bitCount 16 = .ok (.iconst 2, 1) := by decide +kernel
theorem d_J_bitCount_17 : decode b_J_bitCount 17 = .ok (.lushr, 1) := by decide +kernel
theorem d_J_bitCount_18 : decode b_J_bitCount 18 = .ok (.ldc2_w 316, 3) := by decide +kernel
theorem d_J_bitCount_21 : decode b_J_bitCount 21 = .ok (.land, 1) := by decide +kernel
theorem d_J_bitCount_22 : decode b_J_bitCount 22 = .ok (.ladd, 1) := by decide +kernel
theorem d_J_bitCount_23 : decode b_J_bitCount 23 = .ok (.lstore_n 0, 1) := by decide +kernel
theorem d_J_bitCount_24 : decode b_J_bitCount 24 = .ok (.lload_n 0, 1) := by decide +kernel
theorem d_J_bitCount_25 : decode b_J_bitCount 25 = .ok (.lload_n 0, 1) := by decide +kernel
theorem d_J_bitCount_26 : decode b_J_bitCount 26 = .ok (.iconst 4, 1) := by decide +kernel
theorem d_J_bitCount_27 : decode b_J_bitCount 27 = .ok (.lushr, 1) := by decide +kernel
theorem d_J_bitCount_28 : decode b_J_bitCount 28 = .ok (.ladd, 1) := by decide +kernel
theorem d_J_bitCount_29 : decode b_J_bitCount 29 = .ok (.ldc2_w 318, 3) := by decide +kernel
theorem d_J_bitCount_32 : decode b_J_bitCount 32 = .ok (.land, 1) := by decide +kernel
theorem d_J_bitCount_33 : decode b_J_bitCount 33 = .ok (.lstore_n 0, 1) := by decide +kernel
theorem d_J_bitCount_34 : decode b_J_bitCount 34 = .ok (.lload_n 0, 1) := by decide +kernel
theorem d_J_bitCount_35 : decode b_J_bitCount 35 = .ok (.lload_n 0, 1) := by decide +kernel
theorem d_J_bitCount_36 : decode b_J_bitCount 36 = .ok (.bipush 8, 2) := by decide +kernel
theorem d_J_bitCount_38 : decode b_J_bitCount 38 = .ok (.lushr, 1) := by decide +kernel
theorem d_J_bitCount_39 : decode b_J_bitCount 39 = .ok (.ladd, 1) := by decide +kernel
theorem d_J_bitCount_40 : decode b_J_bitCount 40 = .ok (.lstore_n 0, 1) := by decide +kernel
theorem d_J_bitCount_41 : decode b_J_bitCount 41 = .ok (.lload_n 0, 1) := by decide +kernel
theorem d_J_bitCount_42 : decode b_J_bitCount 42 = .ok (.lload_n 0, 1) := by decide +kernel
theorem d_J_bitCount_43 : decode b_J_bitCount 43 = .ok (.bipush 16, 2) := by decide +kernel
theorem d_J_bitCount_45 : decode b_J_bitCount 45 = .ok (.lushr, 1) := by decide +kernel
theorem d_J_bitCount_46 : decode b_J_bitCount 46 = .ok (.ladd, 1) := by decide +kernel
theorem d_J_bitCount_47 : decode b_J_bitCount 47 = .ok (.lstore_n 0, 1) := by decide +kernel
theorem d_J_bitCount_48 : decode b_J_bitCount 48 = .ok (.lload_n 0, 1) := by decide +kernel
theorem d_J_bitCount_49 : decode b_J_bitCount 49 = .ok (.lload_n 0, 1) := by decide +kernel
theorem d_J_bitCount_50 : decode b_J_bitCount 50 = .ok (.bipush 32, 2) := by decide +kernel
theorem d_J_bitCount_52 : decode b_J_bitCount 52 = .ok (.lushr, 1) := by decide +kernel
theorem d_J_bitCount_53 : decode b_J_bitCount 53 = .ok (.ladd, 1) := by decide +kernel
theorem d_J_bitCount_54 : decode b_J_bitCount 54 = .ok (.lstore_n 0, 1) := by decide +kernel
theorem d_J_bitCount_55 : decode b_J_bitCount 55 = .ok (.lload_n 0, 1) := by decide +kernel
theorem d_J_bitCount_56 : decode b_J_bitCount 56 = .ok (.l2i, 1) := by decide +kernel
theorem d_J_bitCount_57 : decode b_J_bitCount 57 = .ok (.bipush 127, 2) := by decide +kernel
theorem d_J_bitCount_59 : decode b_J_bitCount 59 = .ok (.iand, 1) := by decide +kernel
theorem d_J_bitCount_60 : decode b_J_bitCount 60 = .ok (.ireturn, 1) := by decide +kernel
end
section
theorem d_H_init_0 : decode b_H_init 0 = .ok (.aload_n 0, 1) := by decide +kernel
theorem d_H_init_1 : decode b_H_init 1 = .ok (.invokespecial 1, 3) := by decide +kernel
theorem d_H_init_4 : decode b_H_init 4 = .ok (.aload_n 0, 1) := by decide +kernel
theorem d_H_init_5 : decode b_H_init 5 = .ok (.iconst 2, 1) := by decide +kernel
theorem d_H_init_6 : decode b_H_init 6 = .ok (.newarray .int, 2) := by decide +kernel
theorem d_H_init_8 : decode b_H_init 8 = .ok (.putfield 9, 3) := by decide +kernel
theorem d_H_init_11 : decode b_H_init 11 = .ok (.aload_n 0, 1) := by decide +kernel
theorem d_H_init_12 : decode b_H_init 12 = .ok (.iconst 2, 1) := by decide +kernel
theorem d_H_init_13 : decode b_H_init 13 = .ok (.newarray .int, 2) := by decide +kernel
theorem d_H_init_15 : decode b_H_init 15 = .ok (.putfield 13, 3) := by decide +kernel
theorem d_H_init_18 : decode b_H_init 18 = .ok (.aload_n 0, 1) := by decide +kernel
theorem d_H_init_19 : decode b_H_init 19 = .ok (.new 16, 3) := by decide +kernel
theorem d_H_init_22 : decode b_H_init 22 = .ok (.dup, 1) := by decide +kernel
theorem d_H_init_23 : decode b_H_init 23 = .ok (.invokespecial 18, 3) := by decide +kernel
theorem d_H_init_26 : decode b_H_init 26 = .ok (.putfield 19, 3) := by decide +kernel
theorem d_H_init_29 : decode b_H_init 29 = .ok (.aload_n 0, 1) := by decide +kernel
theorem d_H_init_30 : decode b_H_init 30 = .ok (.aload_n 0, 1) := by decide +kernel
theorem d_H_init_31 : decode b_H_init 31 = .ok (.getfield 19, 3) := by decide +kernel
theorem d_H_init_34 : decode b_H_init 34 = .ok (.getfield 23, 3) := by decide +kernel
theorem d_H_init_37 : decode b_H_init 37 = .ok (.putfield 27, 3) := by decide +kernel
theorem d_H_init_40 : decode b_H_init 40 = .ok (.aload_n 0, 1) := by decide +kernel
theorem d_H_init_41 : decode b_H_init 41 = .ok (.iconst 1, 1) := by decide +kernel
theorem d_H_init_42 : decode b_H_init 42 = .ok (.iconst 1, 1) := by decide +kernel
theorem d_H_init_43 : decode b_H_init 43 = .ok (.invokevirtual 28, 3) := by decide +kernel
theorem d_H_init_46 : decode b_H_init 46 = .ok (.return_, 1) := by decide +kernel
theorem d_H_begin_0 : decode b_H_begin 0 = .ok (.iload_n 1, 1) := by decide +kernel
theorem d_H_begin_1 : decode b_H_begin 1 = .ok (.iconst 1, 1) := by decide +kernel
theorem d_H_begin_2 : decode b_H_begin 2 = .ok (.if_icmp .lt 8, 3) := by decide +kernel
theorem d_H_begin_5 : decode b_H_begin 5 = .ok (.iload_n 1, 1) := by decide +kernel
theorem d_H_begin_6 : decode b_H_begin 6 = .ok (.iconst 4, 1) := by decide +kernel
theorem d_H_begin_7 : decode b_H_begin 7 = .ok (.if_icmp .le 13, 3) := by decide +kernel
theorem d_H_begin_10 : decode b_H_begin 10 = .ok (.new 32, 3) := by decide +kernel
theorem d_H_begin_13 : decode b_H_begin 13 = .ok (.dup, 1) := by decide +kernel
theorem d_H_begin_14 : decode b_H_begin 14 = .ok (.ldc 34, 2) := by decide +kernel
theorem d_H_begin_16 : decode b_H_begin 16 = .ok (.invokespecial 36, 3) := by decide +kernel
theorem d_H_begin_19 : decode b_H_begin 19 = .ok (.athrow, 1) := by decide +kernel
theorem d_H_begin_20 : decode b_H_begin 20 = .ok (.iload_n 2, 1) := by decide +kernel
theorem d_H_begin_21 : decode b_H_begin 21 = .ok (.iconst 1, 1) := by decide +kernel
theorem d_H_begin_22 : decode b_H_begin 22 = .ok (.if_icmp .lt 8, 3) := by decide +kernel
theorem d_H_begin_25 : decode b_H_begin 25 = .ok (.iload_n 2, 1) := by decide +kernel
theorem d_H_begin_26 : decode b_H_begin 26 = .ok (.iconst 2, 1) := by decide +kernel
theorem d_H_begin_27 : decode b_H_begin 27 = .ok (.if_icmp .le 13, 3) := by decide +kernel
theorem d_H_begin_30 : decode b_H_begin 30 = .ok (.new 32, 3) := by decide +kernel
theorem d_H_begin_33 : decode b_H_begin 33 = .ok (.dup, 1) := by decide +kernel
theorem d_H_begin_34 : decode b_H_begin 34 = .ok (.ldc 39, 2) := by decide +kernel
theorem d_H_begin_36 : decode b_H_begin 36 = .ok (.invokespecial 36, 3) := by decide +kernel
theorem d_H_begin_39 : decode b_H_begin 39 = .ok (.athrow, 1) := by decide +kernel
theorem d_H_begin_40 : decode b_H_begin 40 = .ok (.aload_n 0, 1) := by decide +kernel
theorem d_H_begin_41 : decode b_H_begin 41 = .ok (.iload_n 1, 1) := by decide +kernel
theorem d_H_begin_42 : decode b_H_begin 42 = .ok (.iload_n 2, 1) := by decide +kernel
theorem d_H_begin_43 : decode b_H_begin 43 = .ok (.invokevirtual 28, 3) := by decide +kernel
theorem d_H_begin_46 : decode b_H_begin 46 = .ok (.return_, 1) := by decide +kernel
theorem d_H_set_0 : decode b_H_set 0 = .ok (.aload_n 0, 1) := by decide +kernel
theorem d_H_set_1 : decode b_H_set 1 = .ok (.iload_n 1, 1) := by decide +kernel
theorem d_H_set_2 : decode b_H_set 2 = .ok (.invokevirtual 41, 3) := by decide +kernel
theorem d_H_set_5 : decode b_H_set 5 = .ok (.ifCond .ne 13, 3) := by decide +kernel
theorem d_H_set_8 : decode b_H_set 8 = .ok (.new 45, 3) := by decide +kernel
theorem d_H_set_11 : decode b_H_set 11 = .ok (.dup, 1) := by decide +kernel
theorem d_H_set_12 : decode b_H_set 12 = .ok (.ldc 47, 2) := by decide +kernel
theorem d_H_set_14 : decode b_H_set 14 = .ok (.invokespecial 49, 3) := by decide +kernel
theorem d_H_set_17 : decode b_H_set 17 = .ok (.athrow, 1) := by decide +kernel
theorem d_H_set_18 : decode b_H_set 18 = .ok (.aload_n 0, 1) := by decide +kernel
theorem d_H_set_19 : decode b_H_set 19 = .ok (.invokevirtual 50, 3) := by decide +kernel
theorem d_H_set_22 : decode b_H_set 22 = .ok (.istore 4, 2) := by decide +kernel
theorem d_H_set_24 : decode b_H_set 24 = .ok (.iload_n 2, 1) := by decide +kernel
theorem d_H_set_25 : decode b_H_set 25 = .ok (.iload_n 3, 1) := by decide +kernel
theorem d_H_set_26 : decode b_H_set 26 = .ok (.ior, 1) := by decide +kernel
theorem d_H_set_27 : decode b_H_set 27 = .ok (.iload 4, 2) := by decide +kernel
theorem d_H_set_29 : decode b_H_set 29 = .ok (.iconst (-1), 1) := by decide +kernel
theorem d_H_set_30 : decode b_H_set 30 = .ok (.ixor, 1) := by decide +kernel
theorem d_H_set_31 : decode b_H_set 31 = .ok (.iand, 1) := by decide +kernel
theorem d_H_set_32 : decode b_H_set 32 = .ok (.ifCond .eq 13, 3) := by decide +kernel
theorem d_H_set_35 : decode b_H_set 35 = .ok (.new 32, 3) := by decide +kernel
theorem d_H_set_38 : decode b_H_set 38 = .ok (.dup, 1) := by decide +kernel
theorem d_H_set_39 : decode b_H_set 39 = .ok (.ldc 54, 2) := by decide +kernel
theorem d_H_set_41 : decode b_H_set 41 = .ok (.invokespecial 36, 3) := by decide +kernel
theorem d_H_set_44 : decode b_H_set 44 = .ok (.athrow, 1) := by decide +kernel
theorem d_H_set_45 : decode b_H_set 45 = .ok (.iload_n 2, 1) := by decide +kernel
theorem d_H_set_46 : decode b_H_set 46 = .ok (.iload_n 3, 1) := by decide +kernel
theorem d_H_set_47 : decode b_H_set 47 = .ok (.iand, 1) := by decide +kernel
theorem d_H_set_48 : decode b_H_set 48 = .ok (.ifCond .eq 13, 3) := by decide +kernel
theorem d_H_set_51 : decode b_H_set 51 = .ok (.new 32, 3) := by decide +kernel
theorem d_H_set_54 : decode b_H_set 54 = .ok (.dup, 1) := by decide +kernel
theorem d_H_set_55 : decode b_H_set 55 = .ok (.ldc 56, 2) := by decide +kernel
theorem d_H_set_57 : decode b_H_set 57 = .ok (.invokespecial 36, 3) := by decide +kernel
theorem d_H_set_60 : decode b_H_set 60 = .ok (.athrow, 1) := by decide +kernel
theorem d_H_set_61 : decode b_H_set 61 = .ok (.aload_n 0, 1) := by decide +kernel
theorem d_H_set_62 : decode b_H_set 62 = .ok (.getfield 9, 3) := by decide +kernel
theorem d_H_set_65 : decode b_H_set 65 = .ok (.iload_n 1, 1) := by decide +kernel
theorem d_H_set_66 : decode b_H_set 66 = .ok (.iload_n 2, 1) := by decide +kernel
theorem d_H_set_67 : decode b_H_set 67 = .ok (.iastore, 1) := by decide +kernel
theorem d_H_set_68 : decode b_H_set 68 = .ok (.aload_n 0, 1) := by decide +kernel
theorem d_H_set_69 : decode b_H_set 69 = .ok (.getfield 13, 3) := by decide +kernel
theorem d_H_set_72 : decode b_H_set 72 = .ok (.iload_n 1, 1) := by decide +kernel
theorem d_H_set_73 : decode b_H_set 73 = .ok (.iload 4, 2) := by decide +kernel
theorem d_H_set_75 : decode b_H_set 75 = .ok (.iload_n 2, 1) := by decide +kernel
theorem d_H_set_76 : decode b_H_set 76 = .ok (.iload_n 3, 1) := by decide +kernel
theorem d_H_set_77 : decode b_H_set 77 = .ok (.ior, 1) := by decide +kernel
theorem d_H_set_78 : decode b_H_set 78 = .ok (.iconst (-1), 1) := by decide +kernel
theorem d_H_set_79 : decode b_H_set 79 = .ok (.ixor, 1) := by decide +kernel
theorem d_H_set_80 : decode b_H_set 80 = .ok (.iand, 1) := by decide +kernel
theorem d_H_set_81 : decode b_H_set 81 = .ok (.iastore, 1) := by decide +kernel
theorem d_H_set_82 : decode b_H_set 82 = .ok (.aload_n 0, 1) := by decide +kernel
theorem d_H_set_83 : decode b_H_set 83 = .ok (.invokevirtual 58, 3) := by decide +kernel
theorem d_H_set_86 : decode b_H_set 86 = .ok (.return_, 1) := by decide +kernel
theorem d_H_candidates_0 : decode b_H_candidates 0 = .ok (.aload_n 0, 1) := by decide +kernel
theorem d_H_candidates_1 : decode b_H_candidates 1 = .ok (.invokevirtual 61, 3) := by decide +kernel
theorem d_H_candidates_4 : decode b_H_candidates 4 = .ok (.aload_n 0, 1) := by decide +kernel
theorem d_H_candidates_5 : decode b_H_candidates 5 = .ok (.getfield 27, 3) := by decide +kernel
theorem d_H_candidates_8 : decode b_H_candidates 8 = .ok (.getfield 64, 3) := by decide +kernel
theorem d_H_candidates_11 : decode b_H_candidates 11 = .ok (.ireturn, 1) := by decide +kernel
theorem d_H_candidate_0 : decode b_H_candidate 0 = .ok (.aload_n 0, 1) := by decide +kernel
theorem d_H_candidate_1 : decode b_H_candidate 1 = .ok (.invokevirtual 61, 3) := by decide +kernel
theorem d_H_candidate_4 : decode b_H_candidate 4 = .ok (.iload_n 1, 1) := by decide +kernel
theorem d_H_candidate_5 : decode b_H_candidate 5 = .ok (.ifCond .lt 14, 3) := by decide +kernel
theorem d_H_candidate_8 : decode b_H_candidate 8 = .ok (.iload_n 1, 1) := by decide +kernel
theorem d_H_candidate_9 : decode b_H_candidate 9 = .ok (.aload_n 0, 1) := by decide +kernel
theorem d_H_candidate_10 : decode b_H_candidate 10 = .ok (.getfield 27, 3) := by decide +kernel
theorem d_H_candidate_13 : decode b_H_candidate 13 = .ok (.getfield 64, 3) := by decide +kernel
theorem d_H_candidate_16 : decode b_H_candidate 16 = .ok (.if_icmp .lt 13, 3) := by decide +kernel
theorem d_H_candidate_19 : decode b_H_candidate 19 = .ok (.new 45, 3) := by decide +kernel
theorem d_H_candidate_22 : decode b_H_candidate 22 = .ok (.dup, 1) := by decide +kernel
theorem d_H_candidate_23 : decode b_H_candidate 23 = .ok (.ldc 70, 2) := by decide +kernel
theorem d_H_candidate_25 : decode b_H_candidate 25 = .ok (.invokespecial 49, 3) := by decide +kernel
theorem d_H_candidate_28 : decode b_H_candidate 28 = .ok (.athrow, 1) := by decide +kernel
theorem d_H_candidate_29 : decode b_H_candidate 29 = .ok (.iload_n 2, 1) := by decide +kernel
theorem d_H_candidate_30 : decode b_H_candidate 30 = .ok (.tableswitch 96 0 4 #[34, 44, 54, 64, 81], 34) := by decide +kernel
theorem d_H_candidate_64 : decode b_H_candidate 64 = .ok (.aload_n 0, 1) := by decide +kernel
theorem d_H_candidate_65 : decode b_H_candidate 65 = .ok (.getfield 27, 3) := by decide +kernel
theorem d_H_candidate_68 : decode b_H_candidate 68 = .ok (.getfield 72, 3) := by decide +kernel
theorem d_H_candidate_71 : decode b_H_candidate 71 = .ok (.iload_n 1, 1) := by decide +kernel
theorem d_H_candidate_72 : decode b_H_candidate 72 = .ok (.iaload, 1) := by decide +kernel
theorem d_H_candidate_73 : decode b_H_candidate 73 = .ok (.ireturn, 1) := by decide +kernel
theorem d_H_candidate_74 : decode b_H_candidate 74 = .ok (.aload_n 0, 1) := by decide +kernel
theorem d_H_candidate_75 : decode b_H_candidate 75 = .ok (.getfield 27, 3) := by decide +kernel
theorem d_H_candidate_78 : decode b_H_candidate 78 = .ok (.getfield 75, 3) := by decide +kernel
theorem d_H_candidate_81 : decode b_H_candidate 81 = .ok (.iload_n 1, 1) := by decide +kernel
theorem d_H_candidate_82 : decode b_H_candidate 82 = .ok (.iaload, 1) := by decide +kernel
theorem d_H_candidate_83 : decode b_H_candidate 83 = .ok (.ireturn, 1) := by decide +kernel
theorem d_H_candidate_84 : decode b_H_candidate 84 = .ok (.aload_n 0, 1) := by decide +kernel
theorem d_H_candidate_85 : decode b_H_candidate 85 = .ok (.getfield 27, 3) := by decide +kernel
theorem d_H_candidate_88 : decode b_H_candidate 88 = .ok (.getfield 78, 3) := by decide +kernel
theorem d_H_candidate_91 : decode b_H_candidate 91 = .ok (.iload_n 1, 1) := by decide +kernel
theorem d_H_candidate_92 : decode b_H_candidate 92 = .ok (.iaload, 1) := by decide +kernel
theorem d_H_candidate_93 : decode b_H_candidate 93 = .ok (.ireturn, 1) := by decide +kernel
theorem d_H_candidate_94 : decode b_H_candidate 94 = .ok (.aload_n 0, 1) := by decide +kernel
theorem d_H_candidate_95 : decode b_H_candidate 95 = .ok (.getfield 27, 3) := by decide +kernel
theorem d_H_candidate_98 : decode b_H_candidate 98 = .ok (.iload_n 1, 1) := by decide +kernel
theorem d_H_candidate_99 : decode b_H_candidate 99 = .ok (.invokevirtual 81, 3) := by decide +kernel
theorem d_H_candidate_102 : decode b_H_candidate 102 = .ok (.ifCond .eq 7, 3) := by decide +kernel
theorem d_H_candidate_105 : decode b_H_candidate 105 = .ok (.iconst 1, 1) := by decide +kernel
theorem d_H_candidate_106 : decode b_H_candidate 106 = .ok (.goto 4, 3) := by decide +kernel
theorem d_H_candidate_109 : decode b_H_candidate 109 = .ok (.iconst 0, 1) := by decide +kernel
theorem d_H_candidate_110 : decode b_H_candidate 110 = .ok (.ireturn, 1) := by decide +kernel
theorem d_H_candidate_111 : decode b_H_candidate 111 = .ok (.aload_n 0, 1) := by decide +kernel
theorem d_H_candidate_112 : decode b_H_candidate 112 = .ok (.getfield 27, 3) := by decide +kernel
theorem d_H_candidate_115 : decode b_H_candidate 115 = .ok (.getfield 84, 3) := by decide +kernel
theorem d_H_candidate_118 : decode b_H_candidate 118 = .ok (.iload_n 1, 1) := by decide +kernel
theorem d_H_candidate_119 : decode b_H_candidate 119 = .ok (.iaload, 1) := by decide +kernel
theorem d_H_candidate_120 : decode b_H_candidate 120 = .ok (.aload_n 0, 1) := by decide +kernel
theorem d_H_candidate_121 : decode b_H_candidate 121 = .ok (.invokevirtual 50, 3) := by decide +kernel
theorem d_H_candidate_124 : decode b_H_candidate 124 = .ok (.iand, 1) := by decide +kernel
theorem d_H_candidate_125 : decode b_H_candidate 125 = .ok (.ireturn, 1) := by decide +kernel
theorem d_H_candidate_126 : decode b_H_candidate 126 = .ok (.new 32, 3) := by decide +kernel
theorem d_H_candidate_129 : decode b_H_candidate 129 = .ok (.dup, 1) := by decide +kernel
theorem d_H_candidate_130 : decode b_H_candidate 130 = .ok (.ldc 87, 2) := by decide +kernel
theorem d_H_candidate_132 : decode b_H_candidate 132 = .ok (.invokespecial 36, 3) := by decide +kernel
theorem d_H_candidate_135 : decode b_H_candidate 135 = .ok (.athrow, 1) := by decide +kernel
theorem d_H_least_0 : decode b_H_least 0 = .ok (.aload_n 0, 1) := by decide +kernel
theorem d_H_least_1 : decode b_H_least 1 = .ok (.invokevirtual 89, 3) := by decide +kernel
theorem d_H_least_4 : decode b_H_least 4 = .ok (.aload_n 0, 1) := by decide +kernel
theorem d_H_least_5 : decode b_H_least 5 = .ok (.getfield 19, 3) := by decide +kernel
theorem d_H_least_8 : decode b_H_least 8 = .ok (.getfield 92, 3) := by decide +kernel
theorem d_H_least_11 : decode b_H_least 11 = .ok (.ireturn, 1) := by decide +kernel
theorem d_H_parts_0 : decode b_H_parts 0 = .ok (.aload_n 0, 1) := by decide +kernel
theorem d_H_parts_1 : decode b_H_parts 1 = .ok (.invokevirtual 89, 3) := by decide +kernel
theorem d_H_parts_4 : decode b_H_parts 4 = .ok (.aload_n 0, 1) := by decide +kernel
theorem d_H_parts_5 : decode b_H_parts 5 = .ok (.getfield 19, 3) := by decide +kernel
theorem d_H_parts_8 : decode b_H_parts 8 = .ok (.getfield 95, 3) := by decide +kernel
theorem d_H_parts_11 : decode b_H_parts 11 = .ok (.ireturn, 1) := by decide +kernel
theorem d_H_chosen_0 : decode b_H_chosen 0 = .ok (.aload_n 0, 1) := by decide +kernel
theorem d_H_chosen_1 : decode b_H_chosen 1 = .ok (.invokevirtual 89, 3) := by decide +kernel
theorem d_H_chosen_4 : decode b_H_chosen 4 = .ok (.iload_n 1, 1) := by decide +kernel
theorem d_H_chosen_5 : decode b_H_chosen 5 = .ok (.ifCond .lt 14, 3) := by decide +kernel
theorem d_H_chosen_8 : decode b_H_chosen 8 = .ok (.iload_n 1, 1) := by decide +kernel
theorem d_H_chosen_9 : decode b_H_chosen 9 = .ok (.aload_n 0, 1) := by decide +kernel
theorem d_H_chosen_10 : decode b_H_chosen 10 = .ok (.getfield 19, 3) := by decide +kernel
theorem d_H_chosen_13 : decode b_H_chosen 13 = .ok (.getfield 92, 3) := by decide +kernel
theorem d_H_chosen_16 : decode b_H_chosen 16 = .ok (.if_icmp .lt 13, 3) := by decide +kernel
theorem d_H_chosen_19 : decode b_H_chosen 19 = .ok (.new 45, 3) := by decide +kernel
theorem d_H_chosen_22 : decode b_H_chosen 22 = .ok (.dup, 1) := by decide +kernel
theorem d_H_chosen_23 : decode b_H_chosen 23 = .ok (.ldc 98, 2) := by decide +kernel
theorem d_H_chosen_25 : decode b_H_chosen 25 = .ok (.invokespecial 49, 3) := by decide +kernel
theorem d_H_chosen_28 : decode b_H_chosen 28 = .ok (.athrow, 1) := by decide +kernel
theorem d_H_chosen_29 : decode b_H_chosen 29 = .ok (.aload_n 0, 1) := by decide +kernel
theorem d_H_chosen_30 : decode b_H_chosen 30 = .ok (.getfield 19, 3) := by decide +kernel
theorem d_H_chosen_33 : decode b_H_chosen 33 = .ok (.getfield 100, 3) := by decide +kernel
theorem d_H_chosen_36 : decode b_H_chosen 36 = .ok (.iload_n 1, 1) := by decide +kernel
theorem d_H_chosen_37 : decode b_H_chosen 37 = .ok (.iaload, 1) := by decide +kernel
theorem d_H_chosen_38 : decode b_H_chosen 38 = .ok (.ireturn, 1) := by decide +kernel
theorem d_H_value_0 : decode b_H_value 0 = .ok (.aload_n 0, 1) := by decide +kernel
theorem d_H_value_1 : decode b_H_value 1 = .ok (.iload_n 1, 1) := by decide +kernel
theorem d_H_value_2 : decode b_H_value 2 = .ok (.invokevirtual 41, 3) := by decide +kernel
theorem d_H_value_5 : decode b_H_value 5 = .ok (.ifCond .ne 13, 3) := by decide +kernel
theorem d_H_value_8 : decode b_H_value 8 = .ok (.new 45, 3) := by decide +kernel
theorem d_H_value_11 : decode b_H_value 11 = .ok (.dup, 1) := by decide +kernel
theorem d_H_value_12 : decode b_H_value 12 = .ok (.ldc 47, 2) := by decide +kernel
theorem d_H_value_14 : decode b_H_value 14 = .ok (.invokespecial 49, 3) := by decide +kernel
theorem d_H_value_17 : decode b_H_value 17 = .ok (.athrow, 1) := by decide +kernel
theorem d_H_value_18 : decode b_H_value 18 = .ok (.iload_n 2, 1) := by decide +kernel
theorem d_H_value_19 : decode b_H_value 19 = .ok (.ifCond .lt 13, 3) := by decide +kernel
theorem d_H_value_22 : decode b_H_value 22 = .ok (.iload_n 2, 1) := by decide +kernel
theorem d_H_value_23 : decode b_H_value 23 = .ok (.iconst 1, 1) := by decide +kernel
theorem d_H_value_24 : decode b_H_value 24 = .ok (.aload_n 0, 1) := by decide +kernel
theorem d_H_value_25 : decode b_H_value 25 = .ok (.getfield 103, 3) := by decide +kernel
theorem d_H_value_28 : decode b_H_value 28 = .ok (.ishl, 1) := by decide +kernel
theorem d_H_value_29 : decode b_H_value 29 = .ok (.if_icmp .lt 13, 3) := by decide +kernel
theorem d_H_value_32 : decode b_H_value 32 = .ok (.new 32, 3) := by decide +kernel
theorem d_H_value_35 : decode b_H_value 35 = .ok (.dup, 1) := by decide +kernel
theorem d_H_value_36 : decode b_H_value 36 = .ok (.ldc 106, 2) := by decide +kernel
theorem d_H_value_38 : decode b_H_value 38 = .ok (.invokespecial 36, 3) := by decide +kernel
theorem d_H_value_41 : decode b_H_value 41 = .ok (.athrow, 1) := by decide +kernel
theorem d_H_value_42 : decode b_H_value 42 = .ok (.aload_n 0, 1) := by decide +kernel
theorem d_H_value_43 : decode b_H_value 43 = .ok (.invokevirtual 89, 3) := by decide +kernel
theorem d_H_value_46 : decode b_H_value 46 = .ok (.aload_n 0, 1) := by decide +kernel
theorem d_H_value_47 : decode b_H_value 47 = .ok (.getfield 19, 3) := by decide +kernel
theorem d_H_value_50 : decode b_H_value 50 = .ok (.iload_n 1, 1) := by decide +kernel
theorem d_H_value_51 : decode b_H_value 51 = .ok (.iload_n 2, 1) := by decide +kernel
theorem d_H_value_52 : decode b_H_value 52 = .ok (.invokevirtual 108, 3) := by decide +kernel
theorem d_H_value_55 : decode b_H_value 55 = .ok (.ireturn, 1) := by decide +kernel
theorem d_H_thinned_0 : decode b_H_thinned 0 = .ok (.aload_n 0, 1) := by decide +kernel
theorem d_H_thinned_1 : decode b_H_thinned 1 = .ok (.invokevirtual 61, 3) := by decide +kernel
theorem d_H_thinned_4 : decode b_H_thinned 4 = .ok (.aload_n 0, 1) := by decide +kernel
theorem d_H_thinned_5 : decode b_H_thinned 5 = .ok (.getfield 27, 3) := by decide +kernel
theorem d_H_thinned_8 : decode b_H_thinned 8 = .ok (.iload_n 1, 1) := by decide +kernel
theorem d_H_thinned_9 : decode b_H_thinned 9 = .ok (.invokevirtual 112, 3) := by decide +kernel
theorem d_H_thinned_12 : decode b_H_thinned 12 = .ok (.ireturn, 1) := by decide +kernel
theorem d_H_restart_0 : decode b_H_restart 0 = .ok (.aload_n 0, 1) := by decide +kernel
theorem d_H_restart_1 : decode b_H_restart 1 = .ok (.iload_n 1, 1) := by decide +kernel
theorem d_H_restart_2 : decode b_H_restart 2 = .ok (.putfield 103, 3) := by decide +kernel
theorem d_H_restart_5 : decode b_H_restart 5 = .ok (.aload_n 0, 1) := by decide +kernel
theorem d_H_restart_6 : decode b_H_restart 6 = .ok (.iload_n 2, 1) := by decide +kernel
theorem d_H_restart_7 : decode b_H_restart 7 = .ok (.putfield 116, 3) := by decide +kernel
theorem d_H_restart_10 : decode b_H_restart 10 = .ok (.iconst 0, 1) := by decide +kernel
theorem d_H_restart_11 : decode b_H_restart 11 = .ok (.istore_n 3, 1) := by decide +kernel
theorem d_H_restart_12 : decode b_H_restart 12 = .ok (.iload_n 3, 1) := by decide +kernel
theorem d_H_restart_13 : decode b_H_restart 13 = .ok (.iconst 2, 1) := by decide +kernel
theorem d_H_restart_14 : decode b_H_restart 14 = .ok (.if_icmp .ge 26, 3) := by decide +kernel
theorem d_H_restart_17 : decode b_H_restart 17 = .ok (.aload_n 0, 1) := by decide +kernel
theorem d_H_restart_18 : decode b_H_restart 18 = .ok (.getfield 9, 3) := by decide +kernel
theorem d_H_restart_21 : decode b_H_restart 21 = .ok (.iload_n 3, 1) := by decide +kernel
theorem d_H_restart_22 : decode b_H_restart 22 = .ok (.iconst 0, 1) := by decide +kernel
theorem d_H_restart_23 : decode b_H_restart 23 = .ok (.iastore, 1) := by decide +kernel
theorem d_H_restart_24 : decode b_H_restart 24 = .ok (.aload_n 0, 1) := by decide +kernel
theorem d_H_restart_25 : decode b_H_restart 25 = .ok (.getfield 13, 3) := by decide +kernel
theorem d_H_restart_28 : decode b_H_restart 28 = .ok (.iload_n 3, 1) := by decide +kernel
theorem d_H_restart_29 : decode b_H_restart 29 = .ok (.aload_n 0, 1) := by decide +kernel
theorem d_H_restart_30 : decode b_H_restart 30 = .ok (.invokevirtual 50, 3) := by decide +kernel
theorem d_H_restart_33 : decode b_H_restart 33 = .ok (.iastore, 1) := by decide +kernel
theorem d_H_restart_34 : decode b_H_restart 34 = .ok (.iinc 3 1, 3) := by decide +kernel
theorem d_H_restart_37 : decode b_H_restart 37 = .ok (.goto (-25), 3) := by decide +kernel
theorem d_H_restart_40 : decode b_H_restart 40 = .ok (.aload_n 0, 1) := by decide +kernel
theorem d_H_restart_41 : decode b_H_restart 41 = .ok (.invokevirtual 58, 3) := by decide +kernel
theorem d_H_restart_44 : decode b_H_restart 44 = .ok (.return_, 1) := by decide +kernel
theorem d_H_forget_0 : decode b_H_forget 0 = .ok (.aload_n 0, 1) := by decide +kernel
theorem d_H_forget_1 : decode b_H_forget 1 = .ok (.iconst 0, 1) := by decide +kernel
theorem d_H_forget_2 : decode b_H_forget 2 = .ok (.putfield 119, 3) := by decide +kernel
theorem d_H_forget_5 : decode b_H_forget 5 = .ok (.aload_n 0, 1) := by decide +kernel
theorem d_H_forget_6 : decode b_H_forget 6 = .ok (.iconst 0, 1) := by decide +kernel
theorem d_H_forget_7 : decode b_H_forget 7 = .ok (.putfield 123, 3) := by decide +kernel
theorem d_H_forget_10 : decode b_H_forget 10 = .ok (.return_, 1) := by decide +kernel
theorem d_H_gather_0 : decode b_H_gather 0 = .ok (.aload_n 0, 1) := by decide +kernel
theorem d_H_gather_1 : decode b_H_gather 1 = .ok (.getfield 119, 3) := by decide +kernel
theorem d_H_gather_4 : decode b_H_gather 4 = .ok (.ifCond .ne 31, 3) := by decide +kernel
theorem d_H_gather_7 : decode b_H_gather 7 = .ok (.aload_n 0, 1) := by decide +kernel
theorem d_H_gather_8 : decode b_H_gather 8 = .ok (.getfield 27, 3) := by decide +kernel
theorem d_H_gather_11 : decode b_H_gather 11 = .ok (.aload_n 0, 1) := by decide +kernel
theorem d_H_gather_12 : decode b_H_gather 12 = .ok (.getfield 103, 3) := by decide +kernel
theorem d_H_gather_15 : decode b_H_gather 15 = .ok (.aload_n 0, 1) := by decide +kernel
theorem d_H_gather_16 : decode b_H_gather 16 = .ok (.getfield 116, 3) := by decide +kernel
theorem d_H_gather_19 : decode b_H_gather 19 = .ok (.aload_n 0, 1) := by decide +kernel
theorem d_H_gather_20 : decode b_H_gather 20 = .ok (.getfield 9, 3) := by decide +kernel
theorem d_H_gather_23 : decode b_H_gather 23 = .ok (.aload_n 0, 1) := by decide +kernel
theorem d_H_gather_24 : decode b_H_gather 24 = .ok (.getfield 13, 3) := by decide +kernel
theorem d_H_gather_27 : decode b_H_gather 27 = .ok (.invokevirtual 126, 3) := by decide +kernel
theorem d_H_gather_30 : decode b_H_gather 30 = .ok (.aload_n 0, 1) := by decide +kernel
theorem d_H_gather_31 : decode b_H_gather 31 = .ok (.iconst 1, 1) := by decide +kernel
theorem d_H_gather_32 : decode b_H_gather 32 = .ok (.putfield 119, 3) := by decide +kernel
theorem d_H_gather_35 : decode b_H_gather 35 = .ok (.return_, 1) := by decide +kernel
theorem d_H_solve_0 : decode b_H_solve 0 = .ok (.aload_n 0, 1) := by decide +kernel
theorem d_H_solve_1 : decode b_H_solve 1 = .ok (.invokevirtual 61, 3) := by decide +kernel
theorem d_H_solve_4 : decode b_H_solve 4 = .ok (.aload_n 0, 1) := by decide +kernel
theorem d_H_solve_5 : decode b_H_solve 5 = .ok (.getfield 123, 3) := by decide +kernel
theorem d_H_solve_8 : decode b_H_solve 8 = .ok (.ifCond .ne 15, 3) := by decide +kernel
theorem d_H_solve_11 : decode b_H_solve 11 = .ok (.aload_n 0, 1) := by decide +kernel
theorem d_H_solve_12 : decode b_H_solve 12 = .ok (.getfield 19, 3) := by decide +kernel
theorem d_H_solve_15 : decode b_H_solve 15 = .ok (.invokevirtual 130, 3) := by decide +kernel
theorem d_H_solve_18 : decode b_H_solve 18 = .ok (.aload_n 0, 1) := by decide +kernel
theorem d_H_solve_19 : decode b_H_solve 19 = .ok (.iconst 1, 1) := by decide +kernel
theorem d_H_solve_20 : decode b_H_solve 20 = .ok (.putfield 123, 3) := by decide +kernel
theorem d_H_solve_23 : decode b_H_solve 23 = .ok (.return_, 1) := by decide +kernel
theorem d_H_isOutput_0 : decode b_H_isOutput 0 = .ok (.iload_n 1, 1) := by decide +kernel
theorem d_H_isOutput_1 : decode b_H_isOutput 1 = .ok (.ifCond .lt 15, 3) := by decide +kernel
theorem d_H_isOutput_4 : decode b_H_isOutput 4 = .ok (.iload_n 1, 1) := by decide +kernel
theorem d_H_isOutput_5 : decode b_H_isOutput 5 = .ok (.aload_n 0, 1) := by decide +kernel
theorem d_H_isOutput_6 : decode b_H_isOutput 6 = .ok (.getfield 116, 3) := by decide +kernel
theorem d_H_isOutput_9 : decode b_H_isOutput 9 = .ok (.if_icmp .ge 7, 3) := by decide +kernel
theorem d_H_isOutput_12 : decode b_H_isOutput 12 = .ok (.iconst 1, 1) := by decide +kernel
theorem d_H_isOutput_13 : decode b_H_isOutput 13 = .ok (.goto 4, 3) := by decide +kernel
theorem d_H_isOutput_16 : decode b_H_isOutput 16 = .ok (.iconst 0, 1) := by decide +kernel
theorem d_H_isOutput_17 : decode b_H_isOutput 17 = .ok (.ireturn, 1) := by decide +kernel
theorem d_H_allInputs_0 : decode b_H_allInputs 0 = .ok (.iconst 1, 1) := by decide +kernel
theorem d_H_allInputs_1 : decode b_H_allInputs 1 = .ok (.iconst 1, 1) := by decide +kernel
theorem d_H_allInputs_2 : decode b_H_allInputs 2 = .ok (.aload_n 0, 1) := by decide +kernel
theorem d_H_allInputs_3 : decode b_H_allInputs 3 = .ok (.getfield 103, 3) := by decide +kernel
theorem d_H_allInputs_6 : decode b_H_allInputs 6 = .ok (.ishl, 1) := by decide +kernel
theorem d_H_allInputs_7 : decode b_H_allInputs 7 = .ok (.ishl, 1) := by decide +kernel
theorem d_H_allInputs_8 : decode b_H_allInputs 8 = .ok (.iconst 1, 1) := by decide +kernel
theorem d_H_allInputs_9 : decode b_H_allInputs 9 = .ok (.isub, 1) := by decide +kernel
theorem d_H_allInputs_10 : decode b_H_allInputs 10 = .ok (.ireturn, 1) := by decide +kernel
end
section
theorem mw_2 : Cond.selects "CoverHouse" ⟨"CoverHouse", "allInputs", "()I"⟩ ⟨"CoverHouse", "allInputs", "()I"⟩ ∈ LW := LW_at 2 (by decide +kernel) (by decide +kernel)
theorem mw_3 : Cond.selects "CoverHouse" ⟨"CoverHouse", "forget", "()V"⟩ ⟨"CoverHouse", "forget", "()V"⟩ ∈ LW := LW_at 3 (by decide +kernel) (by decide +kernel)
theorem mw_4 : Cond.selects "CoverHouse" ⟨"CoverHouse", "gather", "()V"⟩ ⟨"CoverHouse", "gather", "()V"⟩ ∈ LW := LW_at 4 (by decide +kernel) (by decide +kernel)
theorem mw_5 : Cond.selects "CoverHouse$Candidates" ⟨"CoverHouse$Candidates", "isCandidate", "(I)Z"⟩ ⟨"CoverHouse$Candidates", "isCandidate", "(I)Z"⟩ ∈ LW := LW_at 5 (by decide +kernel) (by decide +kernel)
theorem mw_6 : Cond.selects "CoverHouse$Candidates" ⟨"CoverHouse$Candidates", "append", "(I[I)V"⟩ ⟨"CoverHouse$Candidates", "append", "(I[I)V"⟩ ∈ LW := LW_at 6 (by decide +kernel) (by decide +kernel)
theorem mw_7 : Cond.selects "CoverHouse$Candidates" ⟨"CoverHouse$Candidates", "findLonelyPlaces", "()V"⟩ ⟨"CoverHouse$Candidates", "findLonelyPlaces", "()V"⟩ ∈ LW := LW_at 7 (by decide +kernel) (by decide +kernel)
theorem mw_8 : Cond.selects "CoverHouse" ⟨"CoverHouse", "solve", "()V"⟩ ⟨"CoverHouse", "solve", "()V"⟩ ∈ LW := LW_at 8 (by decide +kernel) (by decide +kernel)
theorem mw_9 : Cond.selects "CoverHouse$Search" ⟨"CoverHouse$Search", "serversOf", "(I)J"⟩ ⟨"CoverHouse$Search", "serversOf", "(I)J"⟩ ∈ LW := LW_at 9 (by decide +kernel) (by decide +kernel)
theorem mw_10 : Cond.selects "CoverHouse$Search" ⟨"CoverHouse$Search", "extend", "(IJJIJ)V"⟩ ⟨"CoverHouse$Search", "extend", "(IJJIJ)V"⟩ ∈ LW := LW_at 10 (by decide +kernel) (by decide +kernel)
theorem mw_11 : Cond.selects "CoverHouse$Search" ⟨"CoverHouse$Search", "keepIfBetter", "(IJ)V"⟩ ⟨"CoverHouse$Search", "keepIfBetter", "(IJ)V"⟩ ∈ LW := LW_at 11 (by decide +kernel) (by decide +kernel)
theorem mw_12 : Cond.selects "CoverHouse$Search" ⟨"CoverHouse$Search", "isBetterThanBest", "(IJ)Z"⟩ ⟨"CoverHouse$Search", "isBetterThanBest", "(IJ)Z"⟩ ∈ LW := LW_at 12 (by decide +kernel) (by decide +kernel)
theorem mw_13 : Cond.selects "CoverHouse$Search" ⟨"CoverHouse$Search", "withoutDominated", "(JJ)J"⟩ ⟨"CoverHouse$Search", "withoutDominated", "(JJ)J"⟩ ∈ LW := LW_at 13 (by decide +kernel) (by decide +kernel)
theorem mw_14 : Cond.selects "CoverHouse$Search" ⟨"CoverHouse$Search", "isDominated", "(IJJ)Z"⟩ ⟨"CoverHouse$Search", "isDominated", "(IJJ)Z"⟩ ∈ LW := LW_at 14 (by decide +kernel) (by decide +kernel)
theorem mw_15 : Cond.selects "CoverHouse$Search" ⟨"CoverHouse$Search", "weightToCome", "(JJ)I"⟩ ⟨"CoverHouse$Search", "weightToCome", "(JJ)I"⟩ ∈ LW := LW_at 15 (by decide +kernel) (by decide +kernel)
theorem mw_16 : Cond.selects "CoverHouse$Search" ⟨"CoverHouse$Search", "lightestOf", "(J)I"⟩ ⟨"CoverHouse$Search", "lightestOf", "(J)I"⟩ ∈ LW := LW_at 16 (by decide +kernel) (by decide +kernel)
theorem mw_17 : Cond.selects "CoverHouse$Search" ⟨"CoverHouse$Search", "fewestServers", "(JJ)J"⟩ ⟨"CoverHouse$Search", "fewestServers", "(JJ)J"⟩ ∈ LW := LW_at 17 (by decide +kernel) (by decide +kernel)
theorem mw_18 : Cond.selects "CoverHouse$Search" ⟨"CoverHouse$Search", "listBest", "()V"⟩ ⟨"CoverHouse$Search", "listBest", "()V"⟩ ∈ LW := LW_at 18 (by decide +kernel) (by decide +kernel)
theorem mw_40 : (Jvm.Cond.initialized "CoverHouse") ∈ LW := LW_at 40 (by decide +kernel) (by decide +kernel)
theorem mw_41 : (Jvm.Cond.initialized "CoverHouse$Search") ∈ LW := LW_at 41 (by decide +kernel) (by decide +kernel)
theorem mw_42 : (Jvm.Cond.initialized "CoverHouse$Candidates") ∈ LW := LW_at 42 (by decide +kernel) (by decide +kernel)
theorem mw_43 : (Jvm.Cond.initialized "CoverHouse$Products") ∈ LW := LW_at 43 (by decide +kernel) (by decide +kernel)
theorem mw_50 : (Jvm.Cond.initialized "java/lang/Math") ∈ LW := LW_at 50 (by decide +kernel) (by decide +kernel)
theorem mw_51 : (Jvm.Cond.initialized "java/lang/Long") ∈ LW := LW_at 51 (by decide +kernel) (by decide +kernel)
theorem mw_82 : (Jvm.Cond.constant "CoverHouse$Products" (22 : Nat) (65535 : Int32)) ∈ LW := LW_at 82 (by decide +kernel) (by decide +kernel)
theorem mw_83 : (Jvm.Cond.fieldLink "CoverHouse$Products" (23 : Nat) "CoverHouse$Products" "INPUT_SETS" "[I") ∈ LW := LW_at 83 (by decide +kernel) (by decide +kernel)
theorem mw_85 : (Jvm.Cond.fieldLink "CoverHouse$Products" (9 : Nat) "CoverHouse$Products" "inputs" "[I") ∈ LW := LW_at 85 (by decide +kernel) (by decide +kernel)
theorem mw_86 : (Jvm.Cond.fieldLink "CoverHouse$Candidates" (42 : Nat) "CoverHouse$Products" "inputs" "[I") ∈ LW := LW_at 86 (by decide +kernel) (by decide +kernel)
theorem mw_87 : (Jvm.Cond.fieldLink "CoverHouse$Products" (15 : Nat) "CoverHouse$Products" "sizes" "[I") ∈ LW := LW_at 87 (by decide +kernel) (by decide +kernel)
theorem mw_88 : (Jvm.Cond.fieldLink "CoverHouse$Candidates" (74 : Nat) "CoverHouse$Products" "sizes" "[I") ∈ LW := LW_at 88 (by decide +kernel) (by decide +kernel)
theorem mw_96 : (Jvm.Cond.fieldLink "CoverHouse$Candidates" (9 : Nat) "CoverHouse$Candidates" "numbers" "[I") ∈ LW := LW_at 96 (by decide +kernel) (by decide +kernel)
theorem mw_98 : (Jvm.Cond.fieldLink "CoverHouse$Candidates" (15 : Nat) "CoverHouse$Candidates" "outputs" "[I") ∈ LW := LW_at 98 (by decide +kernel) (by decide +kernel)
theorem mw_99 : (Jvm.Cond.fieldLink "CoverHouse$Search" (61 : Nat) "CoverHouse$Candidates" "outputs" "[I") ∈ LW := LW_at 99 (by decide +kernel) (by decide +kernel)
theorem mw_101 : (Jvm.Cond.fieldLink "CoverHouse$Candidates" (18 : Nat) "CoverHouse$Candidates" "sizes" "[I") ∈ LW := LW_at 101 (by decide +kernel) (by decide +kernel)
theorem mw_102 : (Jvm.Cond.fieldLink "CoverHouse$Search" (33 : Nat) "CoverHouse$Candidates" "sizes" "[I") ∈ LW := LW_at 102 (by decide +kernel) (by decide +kernel)
theorem mw_104 : (Jvm.Cond.fieldLink "CoverHouse$Candidates" (21 : Nat) "CoverHouse$Candidates" "inputs" "[I") ∈ LW := LW_at 104 (by decide +kernel) (by decide +kernel)
theorem mw_105 : (Jvm.Cond.fieldLink "CoverHouse$Search" (64 : Nat) "CoverHouse$Candidates" "inputs" "[I") ∈ LW := LW_at 105 (by decide +kernel) (by decide +kernel)
theorem mw_107 : (Jvm.Cond.fieldLink "CoverHouse$Candidates" (24 : Nat) "CoverHouse$Candidates" "places" "[J") ∈ LW := LW_at 107 (by decide +kernel) (by decide +kernel)
theorem mw_108 : (Jvm.Cond.fieldLink "CoverHouse$Search" (67 : Nat) "CoverHouse$Candidates" "places" "[J") ∈ LW := LW_at 108 (by decide +kernel) (by decide +kernel)
theorem mw_109 : (Jvm.Cond.fieldLink "CoverHouse$Search" (29 : Nat) "CoverHouse$Candidates" "count" "I") ∈ LW := LW_at 109 (by decide +kernel) (by decide +kernel)
theorem mw_110 : (Jvm.Cond.fieldLink "CoverHouse$Candidates" (55 : Nat) "CoverHouse$Candidates" "count" "I") ∈ LW := LW_at 110 (by decide +kernel) (by decide +kernel)
theorem mw_111 : (Jvm.Cond.fieldLink "CoverHouse" (64 : Nat) "CoverHouse$Candidates" "count" "I") ∈ LW := LW_at 111 (by decide +kernel) (by decide +kernel)
theorem mw_112 : (Jvm.Cond.fieldLink "CoverHouse$Candidates" (51 : Nat) "CoverHouse$Candidates" "duePlaces" "J") ∈ LW := LW_at 112 (by decide +kernel) (by decide +kernel)
theorem mw_113 : (Jvm.Cond.fieldLink "CoverHouse$Search" (48 : Nat) "CoverHouse$Candidates" "duePlaces" "J") ∈ LW := LW_at 113 (by decide +kernel) (by decide +kernel)
theorem mw_114 : (Jvm.Cond.fieldLink "CoverHouse$Candidates" (77 : Nat) "CoverHouse$Candidates" "lonelyPlaces" "J") ∈ LW := LW_at 114 (by decide +kernel) (by decide +kernel)
theorem mw_115 : (Jvm.Cond.fieldLink "CoverHouse$Candidates" (31 : Nat) "CoverHouse$Candidates" "products" "LCoverHouse$Products;") ∈ LW := LW_at 115 (by decide +kernel) (by decide +kernel)
theorem mw_116 : (Jvm.Cond.fieldLink "CoverHouse$Candidates" (35 : Nat) "CoverHouse$Candidates" "outputsOfProduct" "[I") ∈ LW := LW_at 116 (by decide +kernel) (by decide +kernel)
theorem mw_138 : (Jvm.Cond.fieldLink "CoverHouse$Search" (9 : Nat) "CoverHouse$Search" "picked" "[I") ∈ LW := LW_at 138 (by decide +kernel) (by decide +kernel)
theorem mw_140 : (Jvm.Cond.fieldLink "CoverHouse$Search" (58 : Nat) "CoverHouse$Search" "pickedCount" "I") ∈ LW := LW_at 140 (by decide +kernel) (by decide +kernel)
theorem mw_141 : (Jvm.Cond.fieldLink "CoverHouse" (92 : Nat) "CoverHouse$Search" "pickedCount" "I") ∈ LW := LW_at 141 (by decide +kernel) (by decide +kernel)
theorem mw_142 : (Jvm.Cond.fieldLink "CoverHouse$Search" (70 : Nat) "CoverHouse$Search" "pickedParts" "I") ∈ LW := LW_at 142 (by decide +kernel) (by decide +kernel)
theorem mw_143 : (Jvm.Cond.fieldLink "CoverHouse" (95 : Nat) "CoverHouse$Search" "pickedParts" "I") ∈ LW := LW_at 143 (by decide +kernel) (by decide +kernel)
theorem mw_144 : (Jvm.Cond.fieldLink "CoverHouse$Search" (18 : Nat) "CoverHouse$Search" "table" "LCoverHouse$Candidates;") ∈ LW := LW_at 144 (by decide +kernel) (by decide +kernel)
theorem mw_146 : (Jvm.Cond.fieldLink "CoverHouse$Search" (22 : Nat) "CoverHouse$Search" "weights" "[I") ∈ LW := LW_at 146 (by decide +kernel) (by decide +kernel)
theorem mw_147 : (Jvm.Cond.fieldLink "CoverHouse$Search" (25 : Nat) "CoverHouse$Search" "servers" "[J") ∈ LW := LW_at 147 (by decide +kernel) (by decide +kernel)
theorem mw_148 : (Jvm.Cond.fieldLink "CoverHouse$Search" (41 : Nat) "CoverHouse$Search" "bestWeight" "I") ∈ LW := LW_at 148 (by decide +kernel) (by decide +kernel)
theorem mw_149 : (Jvm.Cond.fieldLink "CoverHouse$Search" (44 : Nat) "CoverHouse$Search" "bestSet" "J") ∈ LW := LW_at 149 (by decide +kernel) (by decide +kernel)
theorem mw_171 : (Jvm.Cond.methodLink "CoverHouse" (50 : Nat) ({ cls := "CoverHouse", name := "allInputs", desc := "()I" } : Jvm.MethodName)) ∈ LW := LW_at 171 (by decide +kernel) (by decide +kernel)
theorem mw_173 : (Jvm.Cond.instanceMethod ({ cls := "CoverHouse", name := "allInputs", desc := "()I" } : Jvm.MethodName)) ∈ LW := LW_at 173 (by decide +kernel) (by decide +kernel)
theorem mw_174 : (Jvm.Cond.code ({ cls := "CoverHouse", name := "allInputs", desc := "()I" } : Jvm.MethodName) prog_1_method_16_code (1 : Nat) (Option.some Jvm.ClassFile.FieldType.int)) ∈ LW := LW_at 174 (by decide +kernel) (by decide +kernel)
theorem mw_175 : (Jvm.Cond.methodLink "CoverHouse" (58 : Nat) ({ cls := "CoverHouse", name := "forget", desc := "()V" } : Jvm.MethodName)) ∈ LW := LW_at 175 (by decide +kernel) (by decide +kernel)
theorem mw_177 : (Jvm.Cond.instanceMethod ({ cls := "CoverHouse", name := "forget", desc := "()V" } : Jvm.MethodName)) ∈ LW := LW_at 177 (by decide +kernel) (by decide +kernel)
theorem mw_178 : (Jvm.Cond.code ({ cls := "CoverHouse", name := "forget", desc := "()V" } : Jvm.MethodName) prog_1_method_12_code (1 : Nat) (Option.none : Option Jvm.ClassFile.FieldType)) ∈ LW := LW_at 178 (by decide +kernel) (by decide +kernel)
theorem mw_179 : (Jvm.Cond.fieldLink "CoverHouse" (9 : Nat) "CoverHouse" "oneSets" "[I") ∈ LW := LW_at 179 (by decide +kernel) (by decide +kernel)
theorem mw_180 : (Jvm.Cond.fieldLink "CoverHouse" (13 : Nat) "CoverHouse" "zeroSets" "[I") ∈ LW := LW_at 180 (by decide +kernel) (by decide +kernel)
theorem mw_181 : (Jvm.Cond.fieldLink "CoverHouse" (19 : Nat) "CoverHouse" "search" "LCoverHouse$Search;") ∈ LW := LW_at 181 (by decide +kernel) (by decide +kernel)
theorem mw_182 : (Jvm.Cond.fieldLink "CoverHouse" (27 : Nat) "CoverHouse" "table" "LCoverHouse$Candidates;") ∈ LW := LW_at 182 (by decide +kernel) (by decide +kernel)
theorem mw_183 : (Jvm.Cond.fieldLink "CoverHouse" (103 : Nat) "CoverHouse" "inputCount" "I") ∈ LW := LW_at 183 (by decide +kernel) (by decide +kernel)
theorem mw_184 : (Jvm.Cond.fieldLink "CoverHouse" (116 : Nat) "CoverHouse" "outputCount" "I") ∈ LW := LW_at 184 (by decide +kernel) (by decide +kernel)
theorem mw_185 : (Jvm.Cond.fieldLink "CoverHouse" (119 : Nat) "CoverHouse" "gathered" "Z") ∈ LW := LW_at 185 (by decide +kernel) (by decide +kernel)
theorem mw_186 : (Jvm.Cond.fieldLink "CoverHouse" (123 : Nat) "CoverHouse" "searched" "Z") ∈ LW := LW_at 186 (by decide +kernel) (by decide +kernel)
theorem mw_208 : (Jvm.Cond.methodLink "CoverHouse" (61 : Nat) ({ cls := "CoverHouse", name := "gather", desc := "()V" } : Jvm.MethodName)) ∈ LW := LW_at 208 (by decide +kernel) (by decide +kernel)
theorem mw_210 : (Jvm.Cond.instanceMethod ({ cls := "CoverHouse", name := "gather", desc := "()V" } : Jvm.MethodName)) ∈ LW := LW_at 210 (by decide +kernel) (by decide +kernel)
theorem mw_211 : (Jvm.Cond.code ({ cls := "CoverHouse", name := "gather", desc := "()V" } : Jvm.MethodName) prog_1_method_13_code (1 : Nat) (Option.none : Option Jvm.ClassFile.FieldType)) ∈ LW := LW_at 211 (by decide +kernel) (by decide +kernel)
theorem mw_212 : (Jvm.Cond.methodLink "CoverHouse" (126 : Nat) ({ cls := "CoverHouse$Candidates", name := "fill", desc := "(II[I[I)V" } : Jvm.MethodName)) ∈ LW := LW_at 212 (by decide +kernel) (by decide +kernel)
theorem mw_213 : (Jvm.Cond.instanceMethod ({ cls := "CoverHouse$Candidates", name := "fill", desc := "(II[I[I)V" } : Jvm.MethodName)) ∈ LW := LW_at 213 (by decide +kernel) (by decide +kernel)
theorem mw_214 : (Jvm.Cond.selects "CoverHouse$Candidates" ({ cls := "CoverHouse$Candidates", name := "fill", desc := "(II[I[I)V" } : Jvm.MethodName) ({ cls := "CoverHouse$Candidates", name := "fill", desc := "(II[I[I)V" } : Jvm.MethodName)) ∈ LW := LW_at 214 (by decide +kernel) (by decide +kernel)
theorem mw_215 : (Jvm.Cond.code ({ cls := "CoverHouse$Candidates", name := "fill", desc := "(II[I[I)V" } : Jvm.MethodName) prog_2_method_2_code (7 : Nat) (Option.none : Option Jvm.ClassFile.FieldType)) ∈ LW := LW_at 215 (by decide +kernel) (by decide +kernel)
theorem mw_216 : (Jvm.Cond.methodLink "CoverHouse$Candidates" (38 : Nat) ({ cls := "CoverHouse$Products", name := "howMany", desc := "(I)I" } : Jvm.MethodName)) ∈ LW := LW_at 216 (by decide +kernel) (by decide +kernel)
theorem mw_217 : (Jvm.Cond.static ({ cls := "CoverHouse$Products", name := "howMany", desc := "(I)I" } : Jvm.MethodName)) ∈ LW := LW_at 217 (by decide +kernel) (by decide +kernel)
theorem mw_218 : (Jvm.Cond.code ({ cls := "CoverHouse$Products", name := "howMany", desc := "(I)I" } : Jvm.MethodName) prog_3_method_3_code (1 : Nat) (Option.some Jvm.ClassFile.FieldType.int)) ∈ LW := LW_at 218 (by decide +kernel) (by decide +kernel)
theorem mw_219 : (Jvm.Cond.fieldLink "CoverHouse$Products" (26 : Nat) "CoverHouse$Products" "POWERS" "[I") ∈ LW := LW_at 219 (by decide +kernel) (by decide +kernel)
theorem mw_221 : (Jvm.Cond.methodLink "CoverHouse$Candidates" (43 : Nat) ({ cls := "CoverHouse$Candidates", name := "outputsOf", desc := "(II[I)I" } : Jvm.MethodName)) ∈ LW := LW_at 221 (by decide +kernel) (by decide +kernel)
theorem mw_222 : (Jvm.Cond.static ({ cls := "CoverHouse$Candidates", name := "outputsOf", desc := "(II[I)I" } : Jvm.MethodName)) ∈ LW := LW_at 222 (by decide +kernel) (by decide +kernel)
theorem mw_223 : (Jvm.Cond.code ({ cls := "CoverHouse$Candidates", name := "outputsOf", desc := "(II[I)I" } : Jvm.MethodName) prog_2_method_3_code (5 : Nat) (Option.some Jvm.ClassFile.FieldType.int)) ∈ LW := LW_at 223 (by decide +kernel) (by decide +kernel)
theorem mw_224 : (Jvm.Cond.methodLink "CoverHouse$Candidates" (47 : Nat) ({ cls := "CoverHouse$Candidates", name := "placesOf", desc := "([II)J" } : Jvm.MethodName)) ∈ LW := LW_at 224 (by decide +kernel) (by decide +kernel)
theorem mw_225 : (Jvm.Cond.static ({ cls := "CoverHouse$Candidates", name := "placesOf", desc := "([II)J" } : Jvm.MethodName)) ∈ LW := LW_at 225 (by decide +kernel) (by decide +kernel)
theorem mw_226 : (Jvm.Cond.code ({ cls := "CoverHouse$Candidates", name := "placesOf", desc := "([II)J" } : Jvm.MethodName) prog_2_method_4_code (5 : Nat) (Option.some Jvm.ClassFile.FieldType.long)) ∈ LW := LW_at 226 (by decide +kernel) (by decide +kernel)
theorem mw_227 : (Jvm.Cond.methodLink "CoverHouse$Candidates" (59 : Nat) ({ cls := "CoverHouse$Candidates", name := "isCandidate", desc := "(I)Z" } : Jvm.MethodName)) ∈ LW := LW_at 227 (by decide +kernel) (by decide +kernel)
theorem mw_229 : (Jvm.Cond.instanceMethod ({ cls := "CoverHouse$Candidates", name := "isCandidate", desc := "(I)Z" } : Jvm.MethodName)) ∈ LW := LW_at 229 (by decide +kernel) (by decide +kernel)
theorem mw_230 : (Jvm.Cond.code ({ cls := "CoverHouse$Candidates", name := "isCandidate", desc := "(I)Z" } : Jvm.MethodName) prog_2_method_5_code (5 : Nat) (Option.some Jvm.ClassFile.FieldType.boolean)) ∈ LW := LW_at 230 (by decide +kernel) (by decide +kernel)
theorem mw_231 : (Jvm.Cond.methodLink "CoverHouse$Candidates" (70 : Nat) ({ cls := "CoverHouse$Products", name := "withoutPart", desc := "(II)I" } : Jvm.MethodName)) ∈ LW := LW_at 231 (by decide +kernel) (by decide +kernel)
theorem mw_232 : (Jvm.Cond.static ({ cls := "CoverHouse$Products", name := "withoutPart", desc := "(II)I" } : Jvm.MethodName)) ∈ LW := LW_at 232 (by decide +kernel) (by decide +kernel)
theorem mw_233 : (Jvm.Cond.code ({ cls := "CoverHouse$Products", name := "withoutPart", desc := "(II)I" } : Jvm.MethodName) prog_3_method_4_code (4 : Nat) (Option.some Jvm.ClassFile.FieldType.int)) ∈ LW := LW_at 233 (by decide +kernel) (by decide +kernel)
theorem mw_234 : (Jvm.Cond.methodLink "CoverHouse$Candidates" (63 : Nat) ({ cls := "CoverHouse$Candidates", name := "append", desc := "(I[I)V" } : Jvm.MethodName)) ∈ LW := LW_at 234 (by decide +kernel) (by decide +kernel)
theorem mw_236 : (Jvm.Cond.instanceMethod ({ cls := "CoverHouse$Candidates", name := "append", desc := "(I[I)V" } : Jvm.MethodName)) ∈ LW := LW_at 236 (by decide +kernel) (by decide +kernel)
theorem mw_237 : (Jvm.Cond.code ({ cls := "CoverHouse$Candidates", name := "append", desc := "(I[I)V" } : Jvm.MethodName) prog_2_method_6_code (6 : Nat) (Option.none : Option Jvm.ClassFile.FieldType)) ∈ LW := LW_at 237 (by decide +kernel) (by decide +kernel)
theorem mw_238 : (Jvm.Cond.methodLink "CoverHouse$Candidates" (67 : Nat) ({ cls := "CoverHouse$Candidates", name := "findLonelyPlaces", desc := "()V" } : Jvm.MethodName)) ∈ LW := LW_at 238 (by decide +kernel) (by decide +kernel)
theorem mw_240 : (Jvm.Cond.instanceMethod ({ cls := "CoverHouse$Candidates", name := "findLonelyPlaces", desc := "()V" } : Jvm.MethodName)) ∈ LW := LW_at 240 (by decide +kernel) (by decide +kernel)
theorem mw_241 : (Jvm.Cond.code ({ cls := "CoverHouse$Candidates", name := "findLonelyPlaces", desc := "()V" } : Jvm.MethodName) prog_2_method_7_code (6 : Nat) (Option.none : Option Jvm.ClassFile.FieldType)) ∈ LW := LW_at 241 (by decide +kernel) (by decide +kernel)
theorem mw_242 : (Jvm.Cond.constantLong "CoverHouse$Candidates" (75 : Nat) (-1 : Int64)) ∈ LW := LW_at 242 (by decide +kernel) (by decide +kernel)
theorem mw_247 : (Jvm.Cond.methodLink "CoverHouse" (89 : Nat) ({ cls := "CoverHouse", name := "solve", desc := "()V" } : Jvm.MethodName)) ∈ LW := LW_at 247 (by decide +kernel) (by decide +kernel)
theorem mw_249 : (Jvm.Cond.instanceMethod ({ cls := "CoverHouse", name := "solve", desc := "()V" } : Jvm.MethodName)) ∈ LW := LW_at 249 (by decide +kernel) (by decide +kernel)
theorem mw_250 : (Jvm.Cond.code ({ cls := "CoverHouse", name := "solve", desc := "()V" } : Jvm.MethodName) prog_1_method_14_code (1 : Nat) (Option.none : Option Jvm.ClassFile.FieldType)) ∈ LW := LW_at 250 (by decide +kernel) (by decide +kernel)
theorem mw_251 : (Jvm.Cond.methodLink "CoverHouse" (130 : Nat) ({ cls := "CoverHouse$Search", name := "findLeast", desc := "()V" } : Jvm.MethodName)) ∈ LW := LW_at 251 (by decide +kernel) (by decide +kernel)
theorem mw_252 : (Jvm.Cond.instanceMethod ({ cls := "CoverHouse$Search", name := "findLeast", desc := "()V" } : Jvm.MethodName)) ∈ LW := LW_at 252 (by decide +kernel) (by decide +kernel)
theorem mw_253 : (Jvm.Cond.selects "CoverHouse$Search" ({ cls := "CoverHouse$Search", name := "findLeast", desc := "()V" } : Jvm.MethodName) ({ cls := "CoverHouse$Search", name := "findLeast", desc := "()V" } : Jvm.MethodName)) ∈ LW := LW_at 253 (by decide +kernel) (by decide +kernel)
theorem mw_254 : (Jvm.Cond.code ({ cls := "CoverHouse$Search", name := "findLeast", desc := "()V" } : Jvm.MethodName) prog_4_method_2_code (2 : Nat) (Option.none : Option Jvm.ClassFile.FieldType)) ∈ LW := LW_at 254 (by decide +kernel) (by decide +kernel)
theorem mw_255 : (Jvm.Cond.methodLink "CoverHouse$Search" (36 : Nat) ({ cls := "CoverHouse$Search", name := "serversOf", desc := "(I)J" } : Jvm.MethodName)) ∈ LW := LW_at 255 (by decide +kernel) (by decide +kernel)
theorem mw_257 : (Jvm.Cond.instanceMethod ({ cls := "CoverHouse$Search", name := "serversOf", desc := "(I)J" } : Jvm.MethodName)) ∈ LW := LW_at 257 (by decide +kernel) (by decide +kernel)
theorem mw_258 : (Jvm.Cond.code ({ cls := "CoverHouse$Search", name := "serversOf", desc := "(I)J" } : Jvm.MethodName) prog_4_method_4_code (5 : Nat) (Option.some Jvm.ClassFile.FieldType.long)) ∈ LW := LW_at 258 (by decide +kernel) (by decide +kernel)
theorem mw_259 : (Jvm.Cond.constant "CoverHouse$Search" (40 : Nat) (1000000 : Int32)) ∈ LW := LW_at 259 (by decide +kernel) (by decide +kernel)
theorem mw_260 : (Jvm.Cond.methodLink "CoverHouse$Search" (51 : Nat) ({ cls := "CoverHouse$Search", name := "extend", desc := "(IJJIJ)V" } : Jvm.MethodName)) ∈ LW := LW_at 260 (by decide +kernel) (by decide +kernel)
theorem mw_262 : (Jvm.Cond.instanceMethod ({ cls := "CoverHouse$Search", name := "extend", desc := "(IJJIJ)V" } : Jvm.MethodName)) ∈ LW := LW_at 262 (by decide +kernel) (by decide +kernel)
theorem mw_263 : (Jvm.Cond.code ({ cls := "CoverHouse$Search", name := "extend", desc := "(IJJIJ)V" } : Jvm.MethodName) prog_4_method_6_code (16 : Nat) (Option.none : Option Jvm.ClassFile.FieldType)) ∈ LW := LW_at 263 (by decide +kernel) (by decide +kernel)
theorem mw_264 : (Jvm.Cond.methodLink "CoverHouse$Search" (73 : Nat) ({ cls := "CoverHouse$Search", name := "keepIfBetter", desc := "(IJ)V" } : Jvm.MethodName)) ∈ LW := LW_at 264 (by decide +kernel) (by decide +kernel)
theorem mw_266 : (Jvm.Cond.instanceMethod ({ cls := "CoverHouse$Search", name := "keepIfBetter", desc := "(IJ)V" } : Jvm.MethodName)) ∈ LW := LW_at 266 (by decide +kernel) (by decide +kernel)
theorem mw_267 : (Jvm.Cond.code ({ cls := "CoverHouse$Search", name := "keepIfBetter", desc := "(IJ)V" } : Jvm.MethodName) prog_4_method_7_code (4 : Nat) (Option.none : Option Jvm.ClassFile.FieldType)) ∈ LW := LW_at 267 (by decide +kernel) (by decide +kernel)
theorem mw_268 : (Jvm.Cond.methodLink "CoverHouse$Search" (85 : Nat) ({ cls := "CoverHouse$Search", name := "isBetterThanBest", desc := "(IJ)Z" } : Jvm.MethodName)) ∈ LW := LW_at 268 (by decide +kernel) (by decide +kernel)
theorem mw_270 : (Jvm.Cond.instanceMethod ({ cls := "CoverHouse$Search", name := "isBetterThanBest", desc := "(IJ)Z" } : Jvm.MethodName)) ∈ LW := LW_at 270 (by decide +kernel) (by decide +kernel)
theorem mw_271 : (Jvm.Cond.code ({ cls := "CoverHouse$Search", name := "isBetterThanBest", desc := "(IJ)Z" } : Jvm.MethodName) prog_4_method_8_code (8 : Nat) (Option.some Jvm.ClassFile.FieldType.boolean)) ∈ LW := LW_at 271 (by decide +kernel) (by decide +kernel)
theorem mw_272 : (Jvm.Cond.methodLink "CoverHouse$Search" (77 : Nat) ({ cls := "CoverHouse$Search", name := "withoutDominated", desc := "(JJ)J" } : Jvm.MethodName)) ∈ LW := LW_at 272 (by decide +kernel) (by decide +kernel)
theorem mw_274 : (Jvm.Cond.instanceMethod ({ cls := "CoverHouse$Search", name := "withoutDominated", desc := "(JJ)J" } : Jvm.MethodName)) ∈ LW := LW_at 274 (by decide +kernel) (by decide +kernel)
theorem mw_275 : (Jvm.Cond.code ({ cls := "CoverHouse$Search", name := "withoutDominated", desc := "(JJ)J" } : Jvm.MethodName) prog_4_method_9_code (8 : Nat) (Option.some Jvm.ClassFile.FieldType.long)) ∈ LW := LW_at 275 (by decide +kernel) (by decide +kernel)
theorem mw_276 : (Jvm.Cond.methodLink "CoverHouse$Search" (94 : Nat) ({ cls := "CoverHouse$Search", name := "isDominated", desc := "(IJJ)Z" } : Jvm.MethodName)) ∈ LW := LW_at 276 (by decide +kernel) (by decide +kernel)
theorem mw_278 : (Jvm.Cond.instanceMethod ({ cls := "CoverHouse$Search", name := "isDominated", desc := "(IJJ)Z" } : Jvm.MethodName)) ∈ LW := LW_at 278 (by decide +kernel) (by decide +kernel)
theorem mw_279 : (Jvm.Cond.code ({ cls := "CoverHouse$Search", name := "isDominated", desc := "(IJJ)Z" } : Jvm.MethodName) prog_4_method_10_code (10 : Nat) (Option.some Jvm.ClassFile.FieldType.boolean)) ∈ LW := LW_at 279 (by decide +kernel) (by decide +kernel)
theorem mw_280 : (Jvm.Cond.constantLong "CoverHouse$Search" (92 : Nat) (-1 : Int64)) ∈ LW := LW_at 280 (by decide +kernel) (by decide +kernel)
theorem mw_281 : (Jvm.Cond.methodLink "CoverHouse$Search" (81 : Nat) ({ cls := "CoverHouse$Search", name := "weightToCome", desc := "(JJ)I" } : Jvm.MethodName)) ∈ LW := LW_at 281 (by decide +kernel) (by decide +kernel)
theorem mw_283 : (Jvm.Cond.instanceMethod ({ cls := "CoverHouse$Search", name := "weightToCome", desc := "(JJ)I" } : Jvm.MethodName)) ∈ LW := LW_at 283 (by decide +kernel) (by decide +kernel)
theorem mw_284 : (Jvm.Cond.code ({ cls := "CoverHouse$Search", name := "weightToCome", desc := "(JJ)I" } : Jvm.MethodName) prog_4_method_11_code (11 : Nat) (Option.some Jvm.ClassFile.FieldType.int)) ∈ LW := LW_at 284 (by decide +kernel) (by decide +kernel)
theorem mw_285 : (Jvm.Cond.methodLink "CoverHouse$Search" (98 : Nat) ({ cls := "CoverHouse$Search", name := "lightestOf", desc := "(J)I" } : Jvm.MethodName)) ∈ LW := LW_at 285 (by decide +kernel) (by decide +kernel)
theorem mw_287 : (Jvm.Cond.instanceMethod ({ cls := "CoverHouse$Search", name := "lightestOf", desc := "(J)I" } : Jvm.MethodName)) ∈ LW := LW_at 287 (by decide +kernel) (by decide +kernel)
theorem mw_288 : (Jvm.Cond.code ({ cls := "CoverHouse$Search", name := "lightestOf", desc := "(J)I" } : Jvm.MethodName) prog_4_method_12_code (5 : Nat) (Option.some Jvm.ClassFile.FieldType.int)) ∈ LW := LW_at 288 (by decide +kernel) (by decide +kernel)
theorem mw_289 : (Jvm.Cond.methodLink "CoverHouse$Search" (102 : Nat) ({ cls := "java/lang/Math", name := "min", desc := "(II)I" } : Jvm.MethodName)) ∈ LW := LW_at 289 (by decide +kernel) (by decide +kernel)
theorem mw_290 : (Jvm.Cond.static ({ cls := "java/lang/Math", name := "min", desc := "(II)I" } : Jvm.MethodName)) ∈ LW := LW_at 290 (by decide +kernel) (by decide +kernel)
theorem mw_291 : (Jvm.Cond.code ({ cls := "java/lang/Math", name := "min", desc := "(II)I" } : Jvm.MethodName) prog_11_method_69_code (2 : Nat) (Option.some Jvm.ClassFile.FieldType.int)) ∈ LW := LW_at 291 (by decide +kernel) (by decide +kernel)
theorem mw_292 : (Jvm.Cond.methodLink "CoverHouse$Search" (89 : Nat) ({ cls := "CoverHouse$Search", name := "fewestServers", desc := "(JJ)J" } : Jvm.MethodName)) ∈ LW := LW_at 292 (by decide +kernel) (by decide +kernel)
theorem mw_294 : (Jvm.Cond.instanceMethod ({ cls := "CoverHouse$Search", name := "fewestServers", desc := "(JJ)J" } : Jvm.MethodName)) ∈ LW := LW_at 294 (by decide +kernel) (by decide +kernel)
theorem mw_295 : (Jvm.Cond.code ({ cls := "CoverHouse$Search", name := "fewestServers", desc := "(JJ)J" } : Jvm.MethodName) prog_4_method_13_code (10 : Nat) (Option.some Jvm.ClassFile.FieldType.long)) ∈ LW := LW_at 295 (by decide +kernel) (by decide +kernel)
theorem mw_296 : (Jvm.Cond.methodLink "CoverHouse$Search" (108 : Nat) ({ cls := "java/lang/Long", name := "bitCount", desc := "(J)I" } : Jvm.MethodName)) ∈ LW := LW_at 296 (by decide +kernel) (by decide +kernel)
theorem mw_297 : (Jvm.Cond.static ({ cls := "java/lang/Long", name := "bitCount", desc := "(J)I" } : Jvm.MethodName)) ∈ LW := LW_at 297 (by decide +kernel) (by decide +kernel)
theorem mw_298 : (Jvm.Cond.code ({ cls := "java/lang/Long", name := "bitCount", desc := "(J)I" } : Jvm.MethodName) prog_10_method_50_code (2 : Nat) (Option.some Jvm.ClassFile.FieldType.int)) ∈ LW := LW_at 298 (by decide +kernel) (by decide +kernel)
theorem mw_299 : (Jvm.Cond.constantLong "java/lang/Long" (314 : Nat) (6148914691236517205 : Int64)) ∈ LW := LW_at 299 (by decide +kernel) (by decide +kernel)
theorem mw_300 : (Jvm.Cond.constantLong "java/lang/Long" (316 : Nat) (3689348814741910323 : Int64)) ∈ LW := LW_at 300 (by decide +kernel) (by decide +kernel)
theorem mw_301 : (Jvm.Cond.constantLong "java/lang/Long" (318 : Nat) (1085102592571150095 : Int64)) ∈ LW := LW_at 301 (by decide +kernel) (by decide +kernel)
theorem mw_302 : (Jvm.Cond.methodLink "CoverHouse$Search" (55 : Nat) ({ cls := "CoverHouse$Search", name := "listBest", desc := "()V" } : Jvm.MethodName)) ∈ LW := LW_at 302 (by decide +kernel) (by decide +kernel)
theorem mw_304 : (Jvm.Cond.instanceMethod ({ cls := "CoverHouse$Search", name := "listBest", desc := "()V" } : Jvm.MethodName)) ∈ LW := LW_at 304 (by decide +kernel) (by decide +kernel)
theorem mw_305 : (Jvm.Cond.code ({ cls := "CoverHouse$Search", name := "listBest", desc := "()V" } : Jvm.MethodName) prog_4_method_5_code (2 : Nat) (Option.none : Option Jvm.ClassFile.FieldType)) ∈ LW := LW_at 305 (by decide +kernel) (by decide +kernel)
theorem mw_314 : (Jvm.Cond.methodLink "CoverHouse" (112 : Nat) ({ cls := "CoverHouse$Candidates", name := "countThinned", desc := "(I)I" } : Jvm.MethodName)) ∈ LW := LW_at 314 (by decide +kernel) (by decide +kernel)
theorem mw_315 : (Jvm.Cond.instanceMethod ({ cls := "CoverHouse$Candidates", name := "countThinned", desc := "(I)I" } : Jvm.MethodName)) ∈ LW := LW_at 315 (by decide +kernel) (by decide +kernel)
theorem mw_316 : (Jvm.Cond.selects "CoverHouse$Candidates" ({ cls := "CoverHouse$Candidates", name := "countThinned", desc := "(I)I" } : Jvm.MethodName) ({ cls := "CoverHouse$Candidates", name := "countThinned", desc := "(I)I" } : Jvm.MethodName)) ∈ LW := LW_at 316 (by decide +kernel) (by decide +kernel)
theorem mw_317 : (Jvm.Cond.code ({ cls := "CoverHouse$Candidates", name := "countThinned", desc := "(I)I" } : Jvm.MethodName) prog_2_method_10_code (7 : Nat) (Option.some Jvm.ClassFile.FieldType.int)) ∈ LW := LW_at 317 (by decide +kernel) (by decide +kernel)
theorem mw_318 : (Jvm.Cond.methodLink "CoverHouse$Candidates" (80 : Nat) ({ cls := "CoverHouse$Candidates", name := "isCover", desc := "(J)Z" } : Jvm.MethodName)) ∈ LW := LW_at 318 (by decide +kernel) (by decide +kernel)
theorem mw_319 : (Jvm.Cond.instanceMethod ({ cls := "CoverHouse$Candidates", name := "isCover", desc := "(J)Z" } : Jvm.MethodName)) ∈ LW := LW_at 319 (by decide +kernel) (by decide +kernel)
theorem mw_320 : (Jvm.Cond.selects "CoverHouse$Candidates" ({ cls := "CoverHouse$Candidates", name := "isCover", desc := "(J)Z" } : Jvm.MethodName) ({ cls := "CoverHouse$Candidates", name := "isCover", desc := "(J)Z" } : Jvm.MethodName)) ∈ LW := LW_at 320 (by decide +kernel) (by decide +kernel)
theorem mw_321 : (Jvm.Cond.code ({ cls := "CoverHouse$Candidates", name := "isCover", desc := "(J)Z" } : Jvm.MethodName) prog_2_method_9_code (6 : Nat) (Option.some Jvm.ClassFile.FieldType.boolean)) ∈ LW := LW_at 321 (by decide +kernel) (by decide +kernel)
theorem mw_322 : (Jvm.Cond.methodLink "CoverHouse$Candidates" (84 : Nat) ({ cls := "java/lang/Long", name := "bitCount", desc := "(J)I" } : Jvm.MethodName)) ∈ LW := LW_at 322 (by decide +kernel) (by decide +kernel)
end
section
/-! bits of longs, sets of small numbers, folds -/
/-- a fold over 0 .. n - 1 -/
def fo {α : Type} (f : Nat → α → α) : Nat → α → α
  | 0, a => a
  | n + 1, a => f n (fo f n a)
theorem fo_0 {α : Type} (f : Nat → α → α) (a : α) : fo f 0 a = a := rfl
theorem fo_s {α : Type} (f : Nat → α → α) (n : Nat) (a : α) : fo f (n + 1) a = f n (fo f n a) := rfl
/-- is there one below n -/
def exn (n : Nat) (P : Nat → Bool) : Bool := fo (fun j b => b || P j) n false
theorem exn_iff (n : Nat) (P : Nat → Bool) : exn n P = true ↔ ∃ j, j < n ∧ P j = true := by
  induction n with
  | zero => simp [exn, fo]
  | succ n ih =>
    show (exn n P || P n) = true ↔ _
    rw [Bool.or_eq_true, ih]
    constructor
    · rintro (⟨j, h1, h2⟩ | h)
      · exact ⟨j, by omega, h2⟩
      · exact ⟨n, by omega, h⟩
    · rintro ⟨j, h1, h2⟩
      rcases Nat.lt_or_ge j n with h | h
      · exact Or.inl ⟨j, h, h2⟩
      · have : j = n := by omega
        subst this; exact Or.inr h2
theorem exn_false {n : Nat} {P : Nat → Bool} (h : ∀ j, j < n → P j = false) : exn n P = false := by
  rw [Bool.eq_false_iff]
  intro h1
  obtain ⟨j, h2, h3⟩ := (exn_iff n P).mp h1
  rw [h j h2] at h3; cases h3
theorem exn_true {n : Nat} {P : Nat → Bool} {j : Nat} (h1 : j < n) (h2 : P j = true) : exn n P = true := (exn_iff n P).mpr ⟨j, h1, h2⟩
/-- bit i of a long -/
def zb (x : Int64) (i : Nat) : Bool := x.toBitVec.getLsbD i
theorem zb_ext {x y : Int64} (h : ∀ i, i < 64 → zb x i = zb y i) : x = y := Int64.toBitVec_inj.1 (BitVec.eq_of_getLsbD_eq h)
theorem zb_or (x y : Int64) (i : Nat) : zb (x ||| y) i = (zb x i || zb y i) := by simp [zb]
theorem zb_and (x y : Int64) (i : Nat) : zb (x &&& y) i = (zb x i && zb y i) := by simp [zb]
theorem zb_xor (x y : Int64) (i : Nat) : zb (x ^^^ y) i = (zb x i ^^ zb y i) := by simp [zb]
theorem zb_ge {x : Int64} {i : Nat} (h : 64 ≤ i) : zb x i = false := BitVec.getLsbD_of_ge _ _ h
theorem zb_lt {x : Int64} {i : Nat} (h : zb x i = true) : i < 64 := by
  rcases Nat.lt_or_ge i 64 with h1 | h1
  · exact h1
  · rw [zb_ge h1] at h; cases h
theorem zb_0 (i : Nat) : zb 0 i = false := by simp [zb]
theorem zb_m1 {i : Nat} (h : i < 64) : zb (-1) i = true := by
  have : ∀ j : Fin 64, zb (-1) j.val = true := by decide +kernel
  exact this ⟨i, h⟩
theorem zb_not (x : Int64) {i : Nat} (h : i < 64) : zb (x ^^^ (-1)) i = !zb x i := by rw [zb_xor, zb_m1 h]; simp
theorem zb_eq0 {x : Int64} : x = 0 ↔ ∀ i, zb x i = false := ⟨fun h i => by rw [h, zb_0], fun h => zb_ext (fun i _ => by rw [h, zb_0])⟩
theorem zb_ne0 {x : Int64} : ¬ x = 0 ↔ ∃ i, zb x i = true := by
  rw [zb_eq0]
  constructor
  · intro h
    exact Classical.byContradiction fun h1 => h fun i => by
      rw [Bool.eq_false_iff]; exact fun h2 => h1 ⟨i, h2⟩
  · rintro ⟨i, h⟩ h1
    rw [h1 i] at h; cases h
theorem zb_1 (j : Nat) : zb 1 j = decide (j = 0) := by
  rcases Nat.lt_or_ge j 64 with h | h
  · have : ∀ j : Fin 64, zb 1 j.val = decide (j.val = 0) := by decide +kernel
    exact this ⟨j, h⟩
  · rw [zb_ge h]; simp; omega
theorem zb_c : ∀ k, k < 64 → ((nI k).toInt64 &&& 63).toBitVec.smod 64 = BitVec.ofNat 64 k := by decide +kernel
/-- 1L << i -/
def zo (i : Nat) : Int64 := 1 <<< ((nI i).toInt64 &&& 63)
theorem zb_zo {i : Nat} (h : i < 64) (j : Nat) : zb (zo i) j = decide (j = i) := by
  rcases Nat.lt_or_ge j 64 with h1 | h1
  · have : ∀ i j : Fin 64, zb (zo i.val) j.val = decide (j.val = i.val) := by decide +kernel
    exact this ⟨i, h⟩ ⟨j, h1⟩
  · rw [zb_ge h1]; simp; omega
theorem zb_sar (x : Int64) {i : Nat} (h : i < 64) : zb (x >>> ((nI i).toInt64 &&& 63)) 0 = zb x i := by
  unfold zb
  rw [Int64.toBitVec_shiftRight, zb_c i h, BitVec.getLsbD_sshiftRight']
  have e : (BitVec.ofNat 64 i).toNat = i := by simp; omega
  rw [e]; simp [h]
/-- (x >> i & 1) == 0 -/
theorem zb_test (x : Int64) {i : Nat} (h : i < 64) : (x >>> ((nI i).toInt64 &&& 63)) &&& 1 = 0 ↔ zb x i = false := by
  rw [zb_eq0]
  constructor
  · intro h1
    have h2 := h1 0
    rw [zb_and, zb_sar x h, zb_1] at h2
    simpa using h2
  · intro h1 j
    rw [zb_and, zb_1]
    by_cases hj : j = 0
    · subst hj; rw [zb_sar x h, h1]; rfl
    · simp [hj]
/-- (x & 1 << i) == 0 -/
theorem zb_tz (x : Int64) {i : Nat} (h : i < 64) : x &&& zo i = 0 ↔ zb x i = false := by
  rw [zb_eq0]
  constructor
  · intro h1
    have h2 := h1 i
    rw [zb_and, zb_zo h] at h2
    simpa using h2
  · intro h1 j
    rw [zb_and, zb_zo h]
    by_cases hj : j = i
    · subst hj; rw [h1]; rfl
    · simp [hj]
/-- x & ~(1 << i) -/
theorem zb_del (x : Int64) {i : Nat} (h : i < 64) (j : Nat) : zb (x &&& (zo i ^^^ (-1))) j = (zb x j && !decide (j = i)) := by
  rcases Nat.lt_or_ge j 64 with h1 | h1
  · rw [zb_and, zb_not _ h1, zb_zo h]
  · rw [zb_ge h1, zb_ge h1]; rfl
theorem zb_add (x : Int64) {i : Nat} (h : i < 64) (j : Nat) : zb (x ||| zo i) j = (zb x j || decide (j = i)) := by
  rw [zb_or, zb_zo h]
theorem zb_diff (x y : Int64) (j : Nat) : zb (x &&& (y ^^^ (-1))) j = (zb x j && !zb y j) := by
  rcases Nat.lt_or_ge j 64 with h1 | h1
  · rw [zb_and, zb_not _ h1]
  · rw [zb_ge h1, zb_ge h1]; rfl
/-- (1L << n) - 1 -/
theorem zb_full {n : Nat} (h : n < 64) (j : Nat) : zb (zo n - 1) j = decide (j < n) := by
  rcases Nat.lt_or_ge j 64 with h1 | h1
  · have : ∀ i j : Fin 64, zb (zo i.val - 1) j.val = decide (j.val < i.val) := by decide +kernel
    exact this ⟨n, h⟩ ⟨j, h1⟩
  · rw [zb_ge h1]; simp; omega
theorem zb_neg (x : Int64) (i : Nat) : zb (-x) i = (zb x i ^^ (decide (i < 64) && decide (∃ j, j < i ∧ zb x j = true))) := by
  unfold zb
  rw [Int64.toBitVec_neg, BitVec.getLsbD_neg]
/-- the lowest bit alone -/
theorem zb_low (x : Int64) (i : Nat) : zb (x &&& -x) i = (zb x i && !decide (∃ j, j < i ∧ zb x j = true)) := by
  rw [zb_and, zb_neg]
  rcases Nat.lt_or_ge i 64 with h | h
  · cases zb x i <;> simp [h]
  · rw [zb_ge h]; rfl
/-- S comes before T: it has the first one in which they differ -/
def Lex (S T : Nat → Bool) : Prop := ∃ d, S d = true ∧ T d = false ∧ ∀ i, i < d → S i = T i
theorem lex_neg {S T : Nat → Bool} (U : Nat → Bool) (h : Lex S T) : Lex S U ∨ Lex U T := by
  obtain ⟨d, h1, h2, h3⟩ := h
  by_cases hx : ∃ e, e < d ∧ U e ≠ S e
  · obtain ⟨e, ⟨h4, h5⟩, h6⟩ := pk_least (fun e => e < d ∧ U e ≠ S e) hx
    have h7 : ∀ i, i < e → U i = S i := fun i hi => Classical.byContradiction fun hn => h6 i hi ⟨by omega, hn⟩
    cases hs : S e with
    | true =>
      have hu : U e = false := by rw [hs] at h5; cases hq : U e with
        | true => exact absurd hq h5
        | false => rfl
      exact Or.inl ⟨e, hs, hu, fun i hi => (h7 i hi).symm⟩
    | false =>
      have hu : U e = true := by rw [hs] at h5; cases hq : U e with
        | true => rfl
        | false => exact absurd hq h5
      exact Or.inr ⟨e, hu, by rw [← h3 e h4]; exact hs, fun i hi => by rw [h7 i hi]; exact h3 i (by omega)⟩
  · have h7 : ∀ i, i < d → U i = S i := fun i hi => Classical.byContradiction fun hn => hx ⟨i, hi, hn⟩
    cases hu : U d with
    | true => exact Or.inr ⟨d, hu, h2, fun i hi => by rw [h7 i hi]; exact h3 i hi⟩
    | false => exact Or.inl ⟨d, h1, hu, fun i hi => (h7 i hi).symm⟩
theorem lex_irr {S : Nat → Bool} (h : Lex S S) : False := by
  obtain ⟨d, h1, h2, -⟩ := h
  rw [h1] at h2; cases h2
theorem lex_asym {S T : Nat → Bool} (h : Lex S T) (h' : Lex T S) : False := by
  obtain ⟨d, h1, h2, h3⟩ := h
  obtain ⟨e, g1, g2, g3⟩ := h'
  rcases Nat.lt_trichotomy d e with q | q | q
  · rw [← g3 d q] at h1; rw [h1] at h2; cases h2
  · subst q; rw [g1] at h2; cases h2
  · rw [h3 e q] at g2; rw [g1] at g2; cases g2
theorem lex_sup {S T Y : Nat → Bool} (h : Lex S T) (hy : ∀ i, S i = true → Y i = true) : Lex Y T := by
  rcases lex_neg Y h with h1 | h1
  · obtain ⟨d, a, b, -⟩ := h1
    rw [hy d a] at b; cases b
  · exact h1
theorem lex_congr {S S' T T' : Nat → Bool} (hs : ∀ i, S i = S' i) (ht : ∀ i, T i = T' i) (h : Lex S T) : Lex S' T' := by
  obtain ⟨d, h1, h2, h3⟩ := h
  exact ⟨d, by rw [← hs]; exact h1, by rw [← ht]; exact h2, fun i hi => by rw [← hs, ← ht]; exact h3 i hi⟩
theorem lex_tot {S T : Nat → Bool} (h1 : ¬ Lex S T) (h2 : ¬ Lex T S) : ∀ i, S i = T i := by
  intro i
  exact Classical.byContradiction fun hn => by
    obtain ⟨e, h3, h4⟩ := pk_least (fun e => S e ≠ T e) ⟨i, hn⟩
    have h5 : ∀ j, j < e → S j = T j := fun j hj => Classical.byContradiction fun hq => h4 j hj hq
    cases hs : S e with
    | true =>
      have ht : T e = false := by rw [hs] at h3; cases hq : T e with
        | true => exact absurd hq.symm h3
        | false => rfl
      exact h1 ⟨e, hs, ht, h5⟩
    | false =>
      have ht : T e = true := by rw [hs] at h3; cases hq : T e with
        | true => rfl
        | false => exact absurd hq.symm h3
      exact h2 ⟨e, ht, hs, fun j hj => (h5 j hj).symm⟩
/-- 'the first one in which they differ', as the code asks it -/
theorem lex_code (x y : Int64) : x &&& ((x ^^^ y) &&& -(x ^^^ y)) = 0 ↔ ¬ Lex (zb x) (zb y) := by
  rw [zb_eq0]
  constructor
  · rintro h ⟨d, h1, h2, h3⟩
    have h4 := h d
    rw [zb_and, zb_low, zb_xor, h1, h2] at h4
    have h5 : decide (∃ j, j < d ∧ zb (x ^^^ y) j = true) = false := by
      rw [decide_eq_false_iff_not]
      rintro ⟨j, hj, hx⟩
      rw [zb_xor, h3 j hj] at hx; simp at hx
    rw [h5] at h4; simp at h4
  · intro h i
    rw [Bool.eq_false_iff]
    intro h1
    rw [zb_and, zb_low, zb_xor] at h1
    simp only [Bool.and_eq_true, Bool.not_eq_true', decide_eq_false_iff_not] at h1
    obtain ⟨h2, h3, h4⟩ := h1
    refine h ⟨i, h2, ?_, ?_⟩
    · rw [h2] at h3; simpa using h3
    · intro j hj
      refine Classical.byContradiction fun hn => h4 ⟨j, hj, ?_⟩
      rw [zb_xor]; simpa using hn
/-- the sum of the weights of a set, of what lies below n -/
def sw (w : Nat → Nat) (S : Nat → Bool) : Nat → Nat
  | 0 => 0
  | n + 1 => sw w S n + (if S n = true then w n else 0)
def su (S : Nat → Bool) (i : Nat) (b : Bool) : Nat → Bool := fun k => if k = i then b else S k
theorem su_s (S : Nat → Bool) (i : Nat) (b : Bool) : su S i b i = b := by simp [su]
theorem su_n (S : Nat → Bool) {i k : Nat} (b : Bool) (h : k ≠ i) : su S i b k = S k := by simp [su, h]
theorem sw_congr {w : Nat → Nat} {S T : Nat → Bool} {n : Nat} (h : ∀ i, i < n → S i = T i) : sw w S n = sw w T n := by
  induction n with
  | zero => rfl
  | succ n ih => rw [sw, sw, ih (fun i hi => h i (by omega)), h n (by omega)]
theorem sw_su {w : Nat → Nat} {S : Nat → Bool} {i : Nat} {b : Bool} {n : Nat} (hi : i < n) : sw w (su S i b) n + (if S i = true then w i else 0) = sw w S n + (if b = true then w i else 0) := by
  induction n with
  | zero => omega
  | succ n ih =>
    rw [sw, sw]
    by_cases h : i = n
    · subst h
      rw [su_s, sw_congr (S := su S i b) (T := S) (fun j hj => su_n S b (by omega))]
      omega
    · rw [su_n S b (show n ≠ i by omega)]
      have := ih (by omega)
      omega
theorem sw_mono {w : Nat → Nat} {S T : Nat → Bool} {n : Nat} (h : ∀ i, i < n → S i = true → T i = true) : sw w S n ≤ sw w T n := by
  induction n with
  | zero => exact Nat.le_refl _
  | succ n ih =>
    rw [sw, sw]
    have h1 := ih (fun i hi => h i (by omega))
    have h2 := h n (by omega)
    cases hs : S n with
    | true => rw [h2 hs]; simp; omega
    | false => simp; omega
theorem sw_one {w : Nat → Nat} {S T : Nat → Bool} {n i : Nat} (h : ∀ i, i < n → S i = true → T i = true) (hi : i < n) (h1 : S i = false) (h2 : T i = true) : sw w S n + w i ≤ sw w T n := by
  have h3 := sw_su (w := w) (S := S) (i := i) (b := true) hi
  rw [h1] at h3
  have h4 : sw w (su S i true) n ≤ sw w T n := sw_mono (fun j hj hs => by
    by_cases hq : j = i
    · subst hq; exact h2
    · rw [su_n S true hq] at hs; exact h j hj hs)
  simp at h3
  omega
theorem sw_le {w : Nat → Nat} {S : Nat → Bool} {n m : Nat} (h : ∀ i, i < n → w i ≤ m) : sw w S n ≤ n * m := by
  induction n with
  | zero => exact Nat.zero_le _
  | succ n ih =>
    rw [sw, Nat.succ_mul]
    have h1 := ih (fun i hi => h i (by omega))
    have h2 := h n (by omega)
    split <;> omega
end
section
/-! the search for the least cover, over numbers alone -/
/-- S serves all places of O -/
def Cov (c : Nat) (pl : Nat → Int64) (O : Int64) (S : Nat → Bool) : Prop := ∀ q, zb O q = true → ∃ i, i < c ∧ S i = true ∧ zb (pl i) q = true
def Sub (c : Nat) (S : Nat → Bool) (F : Int64) : Prop := ∀ i, S i = true → i < c ∧ zb F i = true
def Bet (a : Nat) (S : Nat → Bool) (b : Nat) (T : Nat → Bool) : Prop := a < b ∨ (a = b ∧ Lex S T)
theorem bet_neg {a b : Nat} {S T : Nat → Bool} (e : Nat) (U : Nat → Bool) (h : Bet a S b T) : Bet a S e U ∨ Bet e U b T := by
  rcases Nat.lt_trichotomy a e with q | q | q
  · exact Or.inl (Or.inl q)
  · rcases h with h | ⟨h, g⟩
    · exact Or.inr (Or.inl (by omega))
    · rcases lex_neg U g with g | g
      · exact Or.inl (Or.inr ⟨q, g⟩)
      · exact Or.inr (Or.inr ⟨by omega, g⟩)
  · rcases h with h | ⟨h, -⟩
    · exact Or.inr (Or.inl (by omega))
    · exact Or.inr (Or.inl (by omega))
/-- no X comes before b, b2 isn't behind b: no X comes before b2 -/
theorem bet_tr {a b b2 : Nat} {S T T2 : Nat → Bool} (h1 : ¬ Bet a S b T) (h2 : ¬ Bet b T b2 T2) : ¬ Bet a S b2 T2 := fun h => by
  rcases bet_neg b T h with h | h
  · exact h1 h
  · exact h2 h
theorem bet_irr {a : Nat} {S : Nat → Bool} (h : Bet a S a S) : False := by
  rcases h with h | ⟨-, h⟩
  · omega
  · exact lex_irr h
theorem bet_asym {a b : Nat} {S T : Nat → Bool} (h : Bet a S b T) (h' : Bet b T a S) : False := by
  rcases h with h | ⟨h, g⟩ <;> rcases h' with h' | ⟨h', g'⟩
  · omega
  · omega
  · omega
  · exact lex_asym g g'
theorem bet_congr {a b : Nat} {S S' T T' : Nat → Bool} (hs : ∀ i, S i = S' i) (ht : ∀ i, T i = T' i) (h : Bet a S b T) : Bet a S' b T' := by
  rcases h with h | ⟨h, g⟩
  · exact Or.inl h
  · exact Or.inr ⟨h, lex_congr hs ht g⟩
def un (K : Int64) (S : Nat → Bool) : Nat → Bool := fun i => zb K i || S i
-- the code's functions
def m_bet (w : Int32) (x : Int64) (bw : Int32) (bs : Int64) : Bool := decide (w < bw) || (decide (w = bw) && !decide (x &&& ((x ^^^ bs) &&& -(x ^^^ bs)) = 0))
def m_domP (pl : Nat → Int64) (w : Nat → Int32) (i : Nat) (O U : Int64) (j : Nat) : Bool := (zb U j && decide ((pl i &&& O) &&& (pl j ^^^ (-1)) = 0)) && (decide (w j < w i) || (decide (w j = w i) && decide (j < i)))
def m_dom (c : Nat) (pl : Nat → Int64) (w : Nat → Int32) (i : Nat) (O U : Int64) : Bool := decide (pl i &&& O = 0) || exn c (m_domP pl w i O U)
def m_wdf (c : Nat) (pl : Nat → Int64) (w : Nat → Int32) (O F : Int64) : Nat → Int64 → Int64 := fun i u => if (zb F i && m_dom c pl w i O u) = true then u &&& (zo i ^^^ (-1)) else u
def m_wd (c : Nat) (pl : Nat → Int64) (w : Nat → Int32) (O F : Int64) : Int64 := fo (m_wdf c pl w O F) c F
def m_lightf (w : Nat → Int32) (some : Int64) : Nat → Int32 → Int32 := fun i b => if zb some i = true then (if w i < b then w i else b) else b
def m_light (c : Nat) (w : Nat → Int32) (some : Int64) : Int32 := fo (m_lightf w some) c 1000000
def m_wtcf (c : Nat) (w : Nat → Int32) (sv : Nat → Int64) (O U : Int64) : Nat → Int64 × Int32 → Int64 × Int32 := fun q a => if (zb O q && decide ((sv q &&& U) &&& a.1 = 0)) = true then (a.1 ||| (sv q &&& U), a.2 + m_light c w (sv q &&& U)) else a
def m_wtc (c : Nat) (w : Nat → Int32) (sv : Nat → Int64) (O U : Int64) : Int64 × Int32 := fo (m_wtcf c w sv O U) 32 (0, 0)
def m_fewf (pop : Int64 → Int32) (sv : Nat → Int64) (O U : Int64) : Nat → Int64 → Int64 := fun q f => if (zb O q && decide (pop (sv q &&& U) < pop f)) = true then sv q &&& U else f
def m_few (pop : Int64 → Int32) (sv : Nat → Int64) (O U : Int64) : Int64 := fo (m_fewf pop sv O U) 32 U
def m_keep (W : Int32) (K : Int64) (b : Int32 × Int64) : Int32 × Int64 := if m_bet W K b.1 b.2 = true then (W, K) else b
def m_loopf (pl : Nat → Int64) (w : Nat → Int32) (T : Int64) (O : Int64) (W : Int32) (K : Int64) (rec : Int64 → Int64 → Int32 → Int64 → Int32 × Int64 → Int32 × Int64) : Nat → Int64 × (Int32 × Int64) → Int64 × (Int32 × Int64) := fun i a => if zb T i = true then (a.1 &&& (zo i ^^^ (-1)), rec (O &&& (pl i ^^^ (-1))) (a.1 &&& (zo i ^^^ (-1))) (W + w i) (K ||| zo i) a.2) else a
def m_ext (pop : Int64 → Int32) (c : Nat) (pl : Nat → Int64) (w : Nat → Int32) (sv : Nat → Int64) : Nat → Int64 → Int64 → Int32 → Int64 → Int32 × Int64 → Int32 × Int64
  | 0, O, _, W, K, b => if O = 0 then m_keep W K b else b
  | d + 1, O, F, W, K, b => if O = 0 then m_keep W K b else
      if m_bet (W + (m_wtc c w sv O (m_wd c pl w O F)).2) (K ||| m_wd c pl w O F) b.1 b.2 = true then
        (fo (m_loopf pl w (m_few pop sv O (m_wd c pl w O F)) O W K (m_ext pop c pl w sv d)) c (m_wd c pl w O F, b)).2
      else b
theorem m_bet_iff {a b : Nat} (ha : a < 2 ^ 31) (hb : b < 2 ^ 31) (x y : Int64) : m_bet (nI a) x (nI b) y = true ↔ Bet a (zb x) b (zb y) := by
  have h := lex_code x y
  unfold m_bet Bet
  simp only [Bool.or_eq_true, Bool.and_eq_true, decide_eq_true_eq, Bool.not_eq_true', decide_eq_false_iff_not, nI_ltI ha hb, nI_eq ha hb, h, Classical.not_not]
-- candidates that need not be looked at
theorem dom_step {c : Nat} {pl : Nat → Int64} {w : Nat → Int32} {wn : Nat → Nat} (hc : c ≤ 63) (hw : ∀ i, i < c → w i = nI (wn i) ∧ 0 < wn i ∧ wn i < 2 ^ 20) {O U K : Int64} {W i : Nat} {S : Nat → Bool} (hi : i < c) (hU : ∀ k, zb U k = true → zb K k = false) (hd : m_dom c pl w i O U = true) (hS : Sub c S U) (hO : Cov c pl O S) :
    ∃ S', Sub c S' (U &&& (zo i ^^^ (-1))) ∧ Cov c pl O S' ∧ ¬ Bet (W + sw wn S c) (un K S) (W + sw wn S' c) (un K S') := by
  have hi64 : i < 64 := by omega
  cases hsi : S i with
  | false =>
    refine ⟨S, fun k hk => ⟨(hS k hk).1, ?_⟩, hO, bet_irr⟩
    rw [zb_del _ hi64, (hS k hk).2]
    have : k ≠ i := fun h => by rw [h, hsi] at hk; cases hk
    simp [this]
  | true =>
    have hsw := sw_su (w := wn) (S := S) (i := i) (b := false) hi
    rw [hsi] at hsw
    simp at hsw
    have hwi := (hw i hi).2.1
    unfold m_dom at hd
    rw [Bool.or_eq_true, decide_eq_true_eq, exn_iff] at hd
    rcases hd with hd | ⟨j, hj, hd⟩
    · refine ⟨su S i false, fun k hk => ?_, fun q hq => ?_, ?_⟩
      · by_cases h : k = i
        · subst h; rw [su_s] at hk; cases hk
        · rw [su_n S false h] at hk
          refine ⟨(hS k hk).1, ?_⟩
          rw [zb_del _ hi64, (hS k hk).2]; simp [h]
      · obtain ⟨k, h1, h2, h3⟩ := hO q hq
        by_cases h : k = i
        · subst h
          have := zb_eq0.mp hd q
          rw [zb_and, h3, hq] at this; cases this
        · exact ⟨k, h1, by rw [su_n S false h]; exact h2, h3⟩
      · rintro (h | ⟨h, -⟩) <;> omega
    · simp only [m_domP, Bool.and_eq_true, Bool.or_eq_true, decide_eq_true_eq] at hd
      obtain ⟨⟨hUj, hown⟩, hlt⟩ := hd
      rw [(hw i hi).1, (hw j hj).1] at hlt
      have bi := (hw i hi).2.2
      have bj := (hw j hj).2.2
      rw [nI_ltI (by omega) (by omega), nI_eq (by omega) (by omega)] at hlt
      have hji : j ≠ i := fun h => by subst h; omega
      have hsw2 := sw_su (w := wn) (S := su S i false) (i := j) (b := true) hj
      rw [su_n S false hji] at hsw2
      simp at hsw2
      refine ⟨su (su S i false) j true, fun k hk => ?_, fun q hq => ?_, ?_⟩
      · by_cases h : k = j
        · subst h
          refine ⟨hj, ?_⟩
          rw [zb_del _ hi64, hUj]; simp [hji]
        · rw [su_n _ true h] at hk
          by_cases h2 : k = i
          · subst h2; rw [su_s] at hk; cases hk
          · rw [su_n S false h2] at hk
            refine ⟨(hS k hk).1, ?_⟩
            rw [zb_del _ hi64, (hS k hk).2]; simp [h2]
      · obtain ⟨k, h1, h2, h3⟩ := hO q hq
        by_cases h : k = i
        · subst h
          refine ⟨j, hj, su_s _ _ _, ?_⟩
          have := zb_eq0.mp hown q
          rw [zb_diff, zb_and, h3, hq] at this
          simpa using this
        · refine ⟨k, h1, ?_, h3⟩
          by_cases h4 : k = j
          · subst h4; exact su_s _ _ _
          · rw [su_n _ true h4, su_n S false h]; exact h2
      · intro hb
        cases hsj : S j with
        | true =>
          rw [hsj] at hsw2
          simp at hsw2
          rcases hb with h | ⟨h, -⟩ <;> omega
        | false =>
          rw [hsj] at hsw2
          simp at hsw2
          rcases hlt with hlt | ⟨hlt, hlt2⟩
          · rcases hb with h | ⟨h, -⟩ <;> omega
          · rcases hb with h | ⟨-, h⟩
            · omega
            · refine lex_asym h ⟨j, ?_, ?_, fun k hk => ?_⟩
              · show (zb K j || su (su S i false) j true j) = true
                rw [su_s]; simp
              · show (zb K j || S j) = false
                rw [hU j hUj, hsj]; rfl
              · show (zb K k || su (su S i false) j true k) = (zb K k || S k)
                rw [su_n _ true (by omega), su_n S false (by omega)]
theorem wd_ok {c : Nat} {pl : Nat → Int64} {w : Nat → Int32} {wn : Nat → Nat} (hc : c ≤ 63) (hw : ∀ i, i < c → w i = nI (wn i) ∧ 0 < wn i ∧ wn i < 2 ^ 20) {O F K : Int64} {W : Nat} (hF : ∀ k, zb F k = true → k < c ∧ zb K k = false) :
    ∀ n, n ≤ c → (∀ k, zb (fo (m_wdf c pl w O F) n F) k = true → zb F k = true) ∧ (∀ k, n ≤ k → zb (fo (m_wdf c pl w O F) n F) k = zb F k) ∧ (∀ k, k < n → zb (fo (m_wdf c pl w O F) n F) k = true → ¬ pl k &&& O = 0) ∧
      ∀ S, Sub c S F → Cov c pl O S → ∃ S', Sub c S' (fo (m_wdf c pl w O F) n F) ∧ Cov c pl O S' ∧ ¬ Bet (W + sw wn S c) (un K S) (W + sw wn S' c) (un K S') := by
  intro n
  induction n with
  | zero => exact fun _ => ⟨fun k h => h, fun k _ => rfl, fun k h => absurd h (by omega), fun S h1 h2 => ⟨S, h1, h2, bet_irr⟩⟩
  | succ n ih =>
    intro hn
    obtain ⟨i1, i2, i3, i4⟩ := ih (by omega)
    have hn64 : n < 64 := by omega
    rw [fo_s]
    generalize hu : fo (m_wdf c pl w O F) n F = u at i1 i2 i3 i4 ⊢
    unfold m_wdf
    by_cases hd : (zb F n && m_dom c pl w n O u) = true
    · rw [if_pos hd]
      rw [Bool.and_eq_true] at hd
      refine ⟨fun k h => ?_, fun k h => ?_, fun k h h' => ?_, fun S h1 h2 => ?_⟩
      · rw [zb_del _ hn64, Bool.and_eq_true] at h; exact i1 k h.1
      · rw [zb_del _ hn64, i2 k (by omega)]; simp; omega
      · rw [zb_del _ hn64, Bool.and_eq_true] at h'
        by_cases hk : k = n
        · subst hk; simp at h'
        · exact i3 k (by omega) h'.1
      · obtain ⟨S1, a1, a2, a3⟩ := i4 S h1 h2
        obtain ⟨S2, b1, b2, b3⟩ := dom_step (W := W) (K := K) hc hw (by omega) (fun k hk => (hF k (i1 k hk)).2) hd.2 a1 a2
        exact ⟨S2, b1, b2, bet_tr a3 b3⟩
    · rw [if_neg hd]
      refine ⟨i1, fun k h => i2 k (by omega), fun k h h' => ?_, i4⟩
      by_cases hk : k = n
      · subst hk
        intro h0
        apply hd
        rw [Bool.and_eq_true]
        refine ⟨i1 k h', ?_⟩
        unfold m_dom
        rw [decide_eq_true h0]; rfl
      · exact i3 k (by omega) h'
-- a bound on what is to come
theorem light_ok {c : Nat} {w : Nat → Int32} {wn : Nat → Nat} (hw : ∀ i, i < c → w i = nI (wn i) ∧ 0 < wn i ∧ wn i < 2 ^ 20) (some : Int64) : ∀ n, n ≤ c → ∃ g : Nat, fo (m_lightf w some) n 1000000 = nI g ∧ g ≤ 1000000 ∧ ∀ i, i < n → zb some i = true → g ≤ wn i := by
  intro n
  induction n with
  | zero => exact fun _ => ⟨1000000, rfl, Nat.le_refl _, fun i h => absurd h (by omega)⟩
  | succ n ih =>
    intro hn
    obtain ⟨g, h1, h2, h3⟩ := ih (by omega)
    obtain ⟨e1, e2, e3⟩ := hw n (by omega)
    rw [fo_s, h1]
    unfold m_lightf
    by_cases hb : zb some n = true
    · rw [if_pos hb, e1]
      by_cases hl : wn n < g
      · rw [if_pos ((nI_ltI (by omega) (by omega)).mpr hl)]
        refine ⟨wn n, rfl, by omega, fun i hi hz => ?_⟩
        by_cases hk : i = n
        · subst hk; exact Nat.le_refl _
        · have := h3 i (by omega) hz; omega
      · rw [if_neg (fun h => hl ((nI_ltI (by omega) (by omega)).mp h))]
        refine ⟨g, rfl, h2, fun i hi hz => ?_⟩
        by_cases hk : i = n
        · subst hk; omega
        · exact h3 i (by omega) hz
    · rw [if_neg hb]
      refine ⟨g, rfl, h2, fun i hi hz => ?_⟩
      by_cases hk : i = n
      · subst hk; exact absurd hz hb
      · exact h3 i (by omega) hz
theorem wtc_ok {c : Nat} {pl : Nat → Int64} {w : Nat → Int32} {wn : Nat → Nat} {sv : Nat → Int64} (hw : ∀ i, i < c → w i = nI (wn i) ∧ 0 < wn i ∧ wn i < 2 ^ 20) (hsv : ∀ q i, q < 32 → zb (sv q) i = (decide (i < c) && zb (pl i) q)) (O U : Int64) :
    ∀ n, n ≤ 32 → ∃ g : Nat, (fo (m_wtcf c w sv O U) n (0, 0)).2 = nI g ∧ g ≤ n * 1000000 ∧ ∀ S, Sub c S U → Cov c pl O S → g ≤ sw wn (fun i => S i && zb (fo (m_wtcf c w sv O U) n (0, 0)).1 i) c := by
  intro n
  induction n with
  | zero => exact fun _ => ⟨0, rfl, Nat.zero_le _, fun _ _ _ => Nat.zero_le _⟩
  | succ n ih =>
    intro hn
    obtain ⟨g, h1, h2, h3⟩ := ih (by omega)
    rw [fo_s]
    generalize fo (m_wtcf c w sv O U) n (0, 0) = a at h1 h3 ⊢
    unfold m_wtcf
    by_cases hd : (zb O n && decide ((sv n &&& U) &&& a.1 = 0)) = true
    · rw [if_pos hd]
      rw [Bool.and_eq_true, decide_eq_true_eq] at hd
      obtain ⟨gl, l1, l2, l3⟩ := light_ok hw (sv n &&& U) c (Nat.le_refl c)
      refine ⟨g + gl, ?_, by rw [Nat.succ_mul]; exact Nat.add_le_add h2 l2, fun S hS hO => ?_⟩
      · show a.2 + m_light c w (sv n &&& U) = _
        unfold m_light
        rw [h1, l1, nI_add]
      · obtain ⟨i, hi, hsi, hp⟩ := hO n hd.1
        have hin : zb (sv n &&& U) i = true := by
          rw [zb_and, hsv n i (by omega), hp, (hS i hsi).2]; simp [hi]
        have hnot : zb a.1 i = false := by
          have := zb_eq0.mp hd.2 i
          rw [zb_and, hin] at this; simpa using this
        have q1 := h3 S hS hO
        have q2 := l3 i hi hin
        have q3 := sw_one (w := wn) (S := fun i => S i && zb a.1 i) (T := fun i => S i && zb (a.1 ||| (sv n &&& U)) i) (n := c) (i := i) (fun j hj hs => by
          simp only [Bool.and_eq_true] at hs ⊢
          exact ⟨hs.1, by rw [zb_or, hs.2]; rfl⟩) hi (by simp [hnot]) (by simp only [hsi, zb_or, hin]; simp)
        show g + gl ≤ sw wn (fun i => S i && zb (a.1 ||| (sv n &&& U)) i) c
        omega
    · rw [if_neg hd]
      exact ⟨g, h1, Nat.le_trans h2 (Nat.mul_le_mul_right _ (Nat.le_succ n)), h3⟩
theorem few_ok (pop : Int64 → Int32) (sv : Nat → Int64) (O U : Int64) : ∀ n, fo (m_fewf pop sv O U) n U = U ∨ ∃ q, q < n ∧ zb O q = true ∧ fo (m_fewf pop sv O U) n U = sv q &&& U := by
  intro n
  induction n with
  | zero => exact Or.inl rfl
  | succ n ih =>
    rw [fo_s]
    generalize fo (m_fewf pop sv O U) n U = f at ih ⊢
    unfold m_fewf
    by_cases hd : (zb O n && decide (pop (sv n &&& U) < pop f)) = true
    · rw [if_pos hd]
      rw [Bool.and_eq_true] at hd
      exact Or.inr ⟨n, by omega, hd.1, rfl⟩
    · rw [if_neg hd]
      rcases ih with h | ⟨q, a, b, h⟩
      · exact Or.inl h
      · exact Or.inr ⟨q, by omega, b, h⟩
/-- how many places are open -/
def pcn (O : Int64) : Nat := sw (fun _ => 1) (zb O) 32
theorem pcn_lt {O P : Int64} {q : Nat} (hq : q < 32) (h1 : zb O q = true) (h2 : zb P q = true) : pcn (O &&& (P ^^^ (-1))) + 1 ≤ pcn O :=
  sw_one (w := fun _ => 1) (i := q) (fun j _ hs => by rw [zb_diff, Bool.and_eq_true] at hs; exact hs.1) hq (by rw [zb_diff, h1, h2]; rfl) h1
theorem pcn_0 {O : Int64} (h32 : ∀ q, zb O q = true → q < 32) (h : pcn O = 0) : O = 0 := by
  refine Classical.byContradiction fun hn => ?_
  obtain ⟨q, hq⟩ := zb_ne0.mp hn
  have := pcn_lt (h32 q hq) hq hq
  omega
/-- what a part of the search answers: the best of what was and of all covers of O by candidates of F, beside K -/
def ExtR (c : Nat) (pl : Nat → Int64) (wn : Nat → Nat) (O F : Int64) (W : Nat) (K : Int64) (bw : Nat) (bs : Int64) (bw' : Nat) (bs' : Int64) : Prop :=
  bw' ≤ 1000000 ∧ ((bw' = bw ∧ bs' = bs) ∨ ∃ S, Sub c S F ∧ Cov c pl O S ∧ bw' = W + sw wn S c ∧ ∀ i, zb bs' i = un K S i) ∧ (∀ S, Sub c S F → Cov c pl O S → ¬ Bet (W + sw wn S c) (un K S) bw' (zb bs')) ∧ ¬ Bet bw (zb bs) bw' (zb bs')
theorem keep_ok {c : Nat} {pl : Nat → Int64} {wn : Nat → Nat} (hp : ∀ i, i < c → 0 < wn i) (F K : Int64) {W bw : Nat} (bs : Int64) (hW : W < 2 ^ 30) (hbw : bw ≤ 1000000) : ∃ bw' bs', m_keep (nI W) K (nI bw, bs) = (nI bw', bs') ∧ ExtR c pl wn 0 F W K bw bs bw' bs' := by
  have hiff := m_bet_iff (a := W) (b := bw) (by omega) (by omega) K bs
  have hle : ∀ S : Nat → Bool, ¬ Bet (W + sw wn S c) (un K S) W (zb K) ∨ True := fun S => Or.inr trivial
  have key : ∀ S : Nat → Bool, Sub c S F → ¬ Bet (W + sw wn S c) (un K S) W (zb K) := by
    intro S hS hb
    by_cases hz : ∃ i, S i = true
    · obtain ⟨i, hi⟩ := hz
      have hic := (hS i hi).1
      have := sw_one (w := wn) (S := fun _ => false) (T := S) (n := c) (i := i) (fun j _ h => by cases h) hic rfl hi
      have := hp i hic
      rcases hb with h | ⟨h, -⟩ <;> omega
    · rcases hb with h | ⟨-, h⟩
      · omega
      · refine lex_irr (S := zb K) (lex_congr (fun i => ?_) (fun _ => rfl) h)
        show (zb K i || S i) = zb K i
        cases hs : S i with
        | true => exact absurd ⟨i, hs⟩ hz
        | false => simp
  unfold m_keep
  by_cases hb : m_bet (nI W) K (nI bw) bs = true
  · rw [if_pos hb]
    have hB := hiff.mp hb
    refine ⟨W, K, rfl, by rcases hB with h | ⟨h, -⟩ <;> omega, Or.inr ⟨fun _ => false, fun i h => by (cases h), fun q h => (by rw [zb_0] at h; cases h), ?_, fun i => ?_⟩, fun S hS _ => key S hS, fun h => bet_asym hB h⟩
    · have : sw wn (fun _ => false) c = 0 := by
        have := sw_le (w := fun _ => 0) (S := fun _ => false) (n := c) (m := 0) (fun _ _ => Nat.le_refl 0)
        clear this
        clear hb hB key hle hiff
        induction c with
        | zero => rfl
        | succ n ih => rw [sw, ih (fun i hi => hp i (by omega))]; rfl
      omega
    · show zb K i = (zb K i || false)
      simp
  · rw [if_neg hb]
    exact ⟨bw, bs, rfl, hbw, Or.inl ⟨rfl, rfl⟩, fun S hS _ => bet_tr (key S hS) (fun h => hb (hiff.mpr h)), bet_irr⟩
set_option maxHeartbeats 1000000 in
theorem ext_ok (pop : Int64 → Int32) {c : Nat} {pl : Nat → Int64} {w : Nat → Int32} {wn : Nat → Nat} {sv : Nat → Int64} (hc : c ≤ 63) (hw : ∀ i, i < c → w i = nI (wn i) ∧ 0 < wn i ∧ wn i < 2 ^ 20) (hsv : ∀ q i, q < 32 → zb (sv q) i = (decide (i < c) && zb (pl i) q)) :
    ∀ (d : Nat) (O F : Int64) (W : Nat) (K : Int64) (bw : Nat) (bs : Int64), (∀ q, zb O q = true → q < 32) → pcn O ≤ d → (∀ k, zb F k = true → k < c ∧ zb K k = false) → W + sw wn (zb F) c < 2 ^ 28 → bw ≤ 1000000 →
      ∃ bw' bs', m_ext pop c pl w sv d O F (nI W) K (nI bw, bs) = (nI bw', bs') ∧ ExtR c pl wn O F W K bw bs bw' bs' := by
  have hp : ∀ i, i < c → 0 < wn i := fun i hi => (hw i hi).2.1
  intro d
  induction d with
  | zero =>
    intro O F W K bw bs h32 hd hF hW hbw
    have h0 := pcn_0 h32 (by omega)
    subst h0
    rw [m_ext, if_pos rfl]
    exact keep_ok hp F K bs (by omega) hbw
  | succ d ih =>
    intro O F W K bw bs h32 hd hF hW hbw
    rw [m_ext]
    by_cases hO : O = 0
    · subst hO
      rw [if_pos rfl]
      exact keep_ok hp F K bs (by omega) hbw
    rw [if_neg hO]
    obtain ⟨u1, -, u3, u4⟩ := wd_ok (pl := pl) (O := O) (F := F) (K := K) (W := W) hc hw hF c (Nat.le_refl c)
    change ∀ k, zb (m_wd c pl w O F) k = true → zb F k = true at u1
    change ∀ k, k < c → zb (m_wd c pl w O F) k = true → ¬ pl k &&& O = 0 at u3
    change ∀ S, Sub c S F → Cov c pl O S → ∃ S', Sub c S' (m_wd c pl w O F) ∧ Cov c pl O S' ∧ ¬ Bet (W + sw wn S c) (un K S) (W + sw wn S' c) (un K S') at u4
    generalize m_wd c pl w O F = U at u1 u3 u4 ⊢
    obtain ⟨g, g1, g2, g3⟩ := wtc_ok (pl := pl) hw hsv O U 32 (Nat.le_refl 32)
    change (m_wtc c w sv O U).2 = nI g at g1
    have hlb : ∀ S, Sub c S U → Cov c pl O S → g ≤ sw wn S c := fun S h1 h2 => Nat.le_trans (g3 S h1 h2) (sw_mono (fun i _ h => by
      rw [Bool.and_eq_true] at h; exact h.1))
    have hUF : ∀ S, Sub c S U → Sub c S F := fun S h i hi => ⟨(h i hi).1, u1 i (h i hi).2⟩
    have hst := m_bet_iff (a := W + g) (b := bw) (by omega) (by omega) (K ||| U) bs
    rw [g1, nI_add]
    by_cases hb : m_bet (nI (W + g)) (K ||| U) (nI bw) bs = true
    · rw [if_pos hb]
      -- the loop
      have hT := few_ok pop sv O U 32
      change m_few pop sv O U = U ∨ ∃ q, q < 32 ∧ zb O q = true ∧ m_few pop sv O U = sv q &&& U at hT
      generalize m_few pop sv O U = T at hT ⊢
      have hTU : ∀ i, zb T i = true → zb U i = true := fun i hi => by
        rcases hT with h | ⟨q, -, -, h⟩
        · rw [h] at hi; exact hi
        · rw [h, zb_and, Bool.and_eq_true] at hi; exact hi.2
      have hmeet : ∀ S, Sub c S U → Cov c pl O S → ∃ i, i < c ∧ S i = true ∧ zb T i = true := fun S h1 h2 => by
        rcases hT with h | ⟨q, hq, hz, h⟩
        · obtain ⟨q, hq⟩ := zb_ne0.mp hO
          obtain ⟨i, a1, a2, -⟩ := h2 q hq
          exact ⟨i, a1, a2, by rw [h]; exact (h1 i a2).2⟩
        · obtain ⟨i, a1, a2, a3⟩ := h2 q hz
          refine ⟨i, a1, a2, ?_⟩
          rw [h, zb_and, hsv q i hq, a3, (h1 i a2).2]; simp [a1]
      have loop : ∀ n, n ≤ c → ∃ (v : Int64) (bw' : Nat) (bs' : Int64), fo (m_loopf pl w T O (nI W) K (m_ext pop c pl w sv d)) n (U, (nI bw, bs)) = (v, (nI bw', bs')) ∧ (∀ k, zb v k = (zb U k && !(zb T k && decide (k < n)))) ∧ bw' ≤ 1000000 ∧ ((bw' = bw ∧ bs' = bs) ∨ ∃ S, Sub c S F ∧ Cov c pl O S ∧ bw' = W + sw wn S c ∧ ∀ i, zb bs' i = un K S i) ∧ (∀ S, Sub c S U → Cov c pl O S → (∃ k, k < n ∧ zb T k = true ∧ S k = true) → ¬ Bet (W + sw wn S c) (un K S) bw' (zb bs')) ∧ ¬ Bet bw (zb bs) bw' (zb bs') := by
        intro n
        induction n with
        | zero =>
          intro _
          refine ⟨U, bw, bs, rfl, fun k => by simp, hbw, Or.inl ⟨rfl, rfl⟩, fun S _ _ ⟨k, hk, _⟩ => absurd hk (by omega), bet_irr⟩
        | succ n ihn =>
          intro hn
          obtain ⟨v, bw1, bs1, e1, e2, e3, e4, e5, e6⟩ := ihn (by omega)
          have hn64 : n < 64 := by omega
          rw [fo_s, e1]
          unfold m_loopf
          by_cases ht : zb T n = true
          · rw [if_pos ht]
            have hUn := hTU n ht
            have hKn := hF n (u1 n hUn)
            have hv : ∀ k, zb (v &&& (zo n ^^^ (-1))) k = (zb U k && !(zb T k && decide (k < n + 1))) := fun k => by
              rw [zb_del _ hn64, e2]
              by_cases hk : k = n
              · subst hk; rw [ht]; simp
              · have : decide (k < n + 1) = decide (k < n) := by simp; omega
                rw [this]; simp [hk]
            obtain ⟨wn1, wn2, wn3⟩ := hw n (by omega)
            have hvF : ∀ k, zb (v &&& (zo n ^^^ (-1))) k = true → zb F k = true ∧ k ≠ n := fun k hk => by
              have hk' := hk
              rw [hv, Bool.and_eq_true] at hk
              refine ⟨u1 k hk.1, fun h => ?_⟩
              subst h
              rw [zb_del _ hn64] at hk'; simp at hk'
            obtain ⟨qq, hqq⟩ := zb_ne0.mp (u3 n (by omega) hUn)
            rw [zb_and, Bool.and_eq_true] at hqq
            have hsum := sw_one (w := wn) (S := zb (v &&& (zo n ^^^ (-1)))) (T := zb F) (n := c) (i := n) (fun j _ hj => (hvF j hj).1) (by omega) (by rw [zb_del _ hn64]; simp) (u1 n hUn)
            obtain ⟨bw2, bs2, x1, x2, x3, x4, x5⟩ := ih (O &&& (pl n ^^^ (-1))) (v &&& (zo n ^^^ (-1))) (W + wn n) (K ||| zo n) bw1 bs1
              (fun q hq => by rw [zb_diff, Bool.and_eq_true] at hq; exact h32 q hq.1)
              (by have := pcn_lt (h32 qq hqq.2) hqq.2 hqq.1; omega)
              (fun k hk => by
                obtain ⟨a1, a2⟩ := hvF k hk
                refine ⟨(hF k a1).1, ?_⟩
                rw [zb_add _ hn64, (hF k a1).2]; simp [a2])
              (by omega) e3
            -- a cover of the rest, with n, is a cover
            have up : ∀ S, Sub c S (v &&& (zo n ^^^ (-1))) → Cov c pl (O &&& (pl n ^^^ (-1))) S → Sub c (su S n true) F ∧ Cov c pl O (su S n true) ∧ sw wn (su S n true) c = sw wn S c + wn n ∧ ∀ i, un (K ||| zo n) S i = un K (su S n true) i := by
              intro S h1 h2
              have hsn : S n = false := by
                cases h : S n with
                | true => exact absurd rfl (hvF n (h1 n h).2).2
                | false => rfl
              refine ⟨fun i hi => ?_, fun q hq => ?_, ?_, fun i => ?_⟩
              · by_cases h : i = n
                · subst h; exact ⟨by omega, u1 i hUn⟩
                · rw [su_n S true h] at hi; exact ⟨(h1 i hi).1, (hvF i (h1 i hi).2).1⟩
              · cases hz : zb (pl n) q with
                | true => exact ⟨n, by omega, su_s _ _ _, hz⟩
                | false =>
                  obtain ⟨i, a1, a2, a3⟩ := h2 q (by rw [zb_diff, hq, hz]; rfl)
                  refine ⟨i, a1, ?_, a3⟩
                  by_cases h : i = n
                  · subst h; exact su_s _ _ _
                  · rw [su_n S true h]; exact a2
              · have := sw_su (w := wn) (S := S) (i := n) (b := true) (n := c) (by omega)
                rw [hsn] at this
                simpa using this
              · show (zb (K ||| zo n) i || S i) = (zb K i || su S n true i)
                rw [zb_add _ hn64]
                by_cases h : i = n
                · subst h; rw [su_s]; simp
                · rw [su_n S true h]; simp [h]
            refine ⟨v &&& (zo n ^^^ (-1)), bw2, bs2, ?_, hv, x2, ?_, ?_, bet_tr e6 x5⟩
            · show (v &&& (zo n ^^^ (-1)), m_ext pop c pl w sv d (O &&& (pl n ^^^ (-1))) (v &&& (zo n ^^^ (-1))) (nI W + w n) (K ||| zo n) (nI bw1, bs1)) = _
              rw [wn1, nI_add, x1]
            · rcases x3 with ⟨a1, a2⟩ | ⟨S, a1, a2, a3, a4⟩
              · rw [a1, a2]; exact e4
              · obtain ⟨b1, b2, b3, b4⟩ := up S a1 a2
                exact Or.inr ⟨su S n true, b1, b2, by omega, fun i => by rw [a4 i]; exact b4 i⟩
            · rintro S h1 h2 ⟨k, hk, hkT, hkS⟩
              by_cases hold : ∃ k, k < n ∧ zb T k = true ∧ S k = true
              · exact bet_tr (e5 S h1 h2 hold) x5
              · have hkn : k = n := by
                  rcases Nat.lt_or_ge k n with h | h
                  · exact absurd ⟨k, h, hkT, hkS⟩ hold
                  · omega
                subst hkn
                have s1 : Sub c (su S k false) (v &&& (zo k ^^^ (-1))) := fun i hi => by
                  by_cases h : i = k
                  · subst h; rw [su_s] at hi; cases hi
                  · rw [su_n S false h] at hi
                    refine ⟨(h1 i hi).1, ?_⟩
                    rw [hv, (h1 i hi).2]
                    have : (zb T i && decide (i < k + 1)) = false := by
                      rw [Bool.eq_false_iff]
                      intro hq
                      rw [Bool.and_eq_true, decide_eq_true_eq] at hq
                      exact hold ⟨i, by omega, hq.1, hi⟩
                    rw [this]; rfl
                have s2 : Cov c pl (O &&& (pl k ^^^ (-1))) (su S k false) := fun q hq => by
                  rw [zb_diff, Bool.and_eq_true, Bool.not_eq_true'] at hq
                  obtain ⟨i, a1, a2, a3⟩ := h2 q hq.1
                  refine ⟨i, a1, ?_, a3⟩
                  have : i ≠ k := fun h => by subst h; rw [hq.2] at a3; cases a3
                  rw [su_n S false this]; exact a2
                have s3 := x4 (su S k false) s1 s2
                obtain ⟨-, -, t3, t4⟩ := up (su S k false) s1 s2
                have t5 : ∀ i, su (su S k false) k true i = S i := fun i => by
                  by_cases h : i = k
                  · subst h; rw [su_s, hkS]
                  · rw [su_n _ true h, su_n S false h]
                rw [sw_congr (S := su (su S k false) k true) (T := S) (fun i _ => t5 i)] at t3
                intro hB
                apply s3
                rw [show W + wn k + sw wn (su S k false) c = W + sw wn S c by omega]
                refine bet_congr (fun i => ?_) (fun _ => rfl) hB
                rw [t4 i]
                show (zb K i || S i) = (zb K i || su (su S k false) k true i)
                rw [t5]
          · rw [if_neg ht]
            refine ⟨v, bw1, bs1, rfl, fun k => ?_, e3, e4, ?_, e6⟩
            · rw [e2]
              by_cases hk : k = n
              · subst hk
                have : zb T k = false := by simpa using ht
                rw [this]; rfl
              · have : decide (k < n + 1) = decide (k < n) := by simp; omega
                rw [this]
            · rintro S h1 h2 ⟨k, hk, hkT, hkS⟩
              refine e5 S h1 h2 ⟨k, ?_, hkT, hkS⟩
              have : k ≠ n := fun h => by subst h; exact ht hkT
              omega
      obtain ⟨v, bw', bs', e1, -, e3, e4, e5, e6⟩ := loop c (Nat.le_refl c)
      rw [e1]
      refine ⟨bw', bs', rfl, e3, e4, fun S h1 h2 => ?_, e6⟩
      obtain ⟨S', a1, a2, a3⟩ := u4 S h1 h2
      obtain ⟨k, k1, k2, k3⟩ := hmeet S' a1 a2
      exact bet_tr a3 (e5 S' a1 a2 ⟨k, k1, k3, k2⟩)
    · rw [if_neg hb]
      refine ⟨bw, bs, rfl, hbw, Or.inl ⟨rfl, rfl⟩, fun S h1 h2 => ?_, bet_irr⟩
      obtain ⟨S', a1, a2, a3⟩ := u4 S h1 h2
      refine bet_tr a3 (fun hB => hb (hst.mpr ?_))
      have h3 := hlb S' a1 a2
      rcases Nat.lt_or_ge (W + g) bw with hl | hl
      · exact Or.inl hl
      · rcases hB with h | ⟨h, hx⟩
        · omega
        · refine Or.inr ⟨by omega, lex_sup hx (fun i hi => ?_)⟩
          have hi : (zb K i || S' i) = true := hi
          rw [zb_or]
          rw [Bool.or_eq_true] at hi ⊢
          rcases hi with hi | hi
          · exact Or.inl hi
          · exact Or.inr (a1 i hi).2
end
section
/-! there are never more than 54 candidates -/
def iset (k : Nat) : Nat := if k = 0 then 43690 else if k = 1 then 52428 else if k = 2 then 61680 else 65280
/-- the inputs for which product p is 1, a bit each -/
def W4 (p : Nat) : Nat := fo (fun k w => if p / 3 ^ k % 3 = 1 then w &&& iset k else if p / 3 ^ k % 3 = 2 then w &&& (65535 ^^^ iset k) else w) 4 65535
/-- product p without its part of input k -/
def wop (p k : Nat) : Nat := p - p / 3 ^ k % 3 * 3 ^ k
def cnt (P : Nat → Bool) (n : Nat) : Nat := sw (fun _ => 1) P n
/-- p is free of z, and with any part left out it isn't -/
def pr4 (z p : Nat) : Bool := decide (W4 p &&& z = 0) && !exn 4 (fun k => !decide (wop p k = p) && decide (W4 (wop p k) &&& z = 0))
def W3 (q : Nat) : Nat := W4 q % 256
def pr3 (z q : Nat) : Bool := decide (W3 q &&& z = 0) && !exn 3 (fun k => !decide (wop q k = q) && decide (W3 (wop q k) &&& z = 0))
set_option maxRecDepth 100000 in
theorem pr3_6 : ∀ z, z < 256 → cnt (pr3 z) 27 ≤ 6 := by decide +kernel
theorem sw_add (w : Nat) (P : Nat → Bool) (a b : Nat) : sw (fun _ => w) P (a + b) = sw (fun _ => w) P a + sw (fun _ => w) (fun i => P (a + i)) b := by
  induction b with
  | zero => rfl
  | succ b ih => rw [← Nat.add_assoc, sw, ih, sw, Nat.add_assoc]
theorem land_split (x z : Nat) : x &&& z = 0 ↔ (x / 256 &&& z / 256 = 0) ∧ (x % 256 &&& z % 256 = 0) := by
  have h1 : (x &&& z) / 256 = x / 256 &&& z / 256 := Nat.and_div_two_pow (n := 8)
  have h2 : (x &&& z) % 256 = x % 256 &&& z % 256 := Nat.and_mod_two_pow (n := 8)
  rw [← h1, ← h2]
  omega
theorem land_or0 (x a b : Nat) : x &&& (a ||| b) = 0 ↔ (x &&& a = 0) ∧ (x &&& b = 0) := by
  rw [Nat.and_or_distrib_left]
  constructor
  · intro h
    constructor
    · apply Nat.eq_of_testBit_eq; intro i
      have := congrArg (fun z => Nat.testBit z i) h
      simp only [Nat.testBit_or, Nat.zero_testBit, Bool.or_eq_false_iff] at this ⊢
      exact this.1
    · apply Nat.eq_of_testBit_eq; intro i
      have := congrArg (fun z => Nat.testBit z i) h
      simp only [Nat.testBit_or, Nat.zero_testBit, Bool.or_eq_false_iff] at this ⊢
      exact this.2
  · rintro ⟨h1, h2⟩; rw [h1, h2]; rfl
theorem w4_0 : ∀ q, q < 27 → W4 q / 256 = W3 q ∧ W4 q % 256 = W3 q := by decide +kernel
theorem w4_1 : ∀ q, q < 27 → W4 (27 + q) / 256 = W3 q ∧ W4 (27 + q) % 256 = 0 := by decide +kernel
theorem w4_2 : ∀ q, q < 27 → W4 (54 + q) / 256 = 0 ∧ W4 (54 + q) % 256 = W3 q := by decide +kernel
theorem wop_3 : ∀ q, q < 27 → ∀ k, k < 3 → wop q k < 27 ∧ wop (27 + q) k = 27 + wop q k ∧ wop (54 + q) k = 54 + wop q k := by decide +kernel
theorem pr4_to3 (z zz a : Nat) (ha : a = 0 ∨ a = 27 ∨ a = 54) (hz : ∀ q, q < 27 → (W4 (a + q) &&& z = 0 ↔ W3 q &&& zz = 0)) : cnt (fun q => pr4 z (a + q)) 27 ≤ cnt (pr3 zz) 27 := by
  refine sw_mono (fun q hq h => ?_)
  unfold pr4 at h
  unfold pr3
  rw [Bool.and_eq_true, decide_eq_true_eq, Bool.not_eq_true'] at h ⊢
  refine ⟨(hz q hq).mp h.1, exn_false (fun k hk => ?_)⟩
  have h2 : ¬ (exn 4 (fun k => !decide (wop (a + q) k = a + q) && decide (W4 (wop (a + q) k) &&& z = 0)) = true) := by rw [h.2]; simp
  rw [exn_iff] at h2
  obtain ⟨b1, b2, b3⟩ := wop_3 q hq k hk
  have e : wop (a + q) k = a + wop q k := by
    rcases ha with rfl | rfl | rfl
    · simp
    · exact b2
    · exact b3
  rw [Bool.eq_false_iff]
  intro h3
  apply h2
  refine ⟨k, by omega, ?_⟩
  rw [Bool.and_eq_true, Bool.not_eq_true', decide_eq_false_iff_not, decide_eq_true_eq] at h3 ⊢
  rw [e]
  exact ⟨by omega, (hz _ b1).mpr h3.2⟩
theorem pr4_18 {z : Nat} (hz : z < 65536) : cnt (pr4 z) 81 ≤ 18 := by
  have h0 := pr4_to3 z (z / 256 ||| z % 256) 0 (Or.inl rfl) (fun q hq => by
    rw [Nat.zero_add, land_split, (w4_0 q hq).1, (w4_0 q hq).2, land_or0])
  have h1 := pr4_to3 z (z / 256) 27 (Or.inr (Or.inl rfl)) (fun q hq => by
    rw [land_split, (w4_1 q hq).1, (w4_1 q hq).2]; simp)
  have h2 := pr4_to3 z (z % 256) 54 (Or.inr (Or.inr rfl)) (fun q hq => by
    rw [land_split, (w4_2 q hq).1, (w4_2 q hq).2]; simp)
  have m0 := pr3_6 (z / 256 ||| z % 256) (Nat.or_lt_two_pow (n := 8) (by omega) (by omega))
  have m1 := pr3_6 (z / 256) (by omega)
  have m2 := pr3_6 (z % 256) (by omega)
  have s1 : sw (fun _ => 1) (pr4 z) 81 = _ := sw_add 1 (pr4 z) 54 27
  have s2 : sw (fun _ => 1) (pr4 z) 54 = _ := sw_add 1 (pr4 z) 27 27
  unfold cnt at *
  simp only [Nat.zero_add] at h0
  have e : (fun q => pr4 z q) = pr4 z := rfl
  rw [e] at h0
  omega
end
section
/-! the number of bits of a long, as the JDK counts them -/
def mk8 (b : Nat) : Nat → Nat
  | 0 => 0
  | n + 1 => mk8 b n * 256 + b
def bs1 (m x : Nat) : Nat := x - (x / 2 &&& m)
def bs2 (m x : Nat) : Nat := (x &&& m) + (x / 4 &&& m)
def bs3 (m x : Nat) : Nat := (x + x / 16) &&& m
theorem and_bytes (a c : Nat) {b d : Nat} (hb : b < 256) (hd : d < 256) : (a * 256 + b) &&& (c * 256 + d) = (a &&& c) * 256 + (b &&& d) := by
  have h1 : ((a * 256 + b) &&& (c * 256 + d)) / 256 = (a * 256 + b) / 256 &&& (c * 256 + d) / 256 := Nat.and_div_two_pow (n := 8)
  have h2 : ((a * 256 + b) &&& (c * 256 + d)) % 256 = (a * 256 + b) % 256 &&& (c * 256 + d) % 256 := Nat.and_mod_two_pow (n := 8)
  rw [show (a * 256 + b) / 256 = a by omega, show (c * 256 + d) / 256 = c by omega] at h1
  rw [show (a * 256 + b) % 256 = b by omega, show (c * 256 + d) % 256 = d by omega] at h2
  omega
theorem by1 : ∀ lo, lo < 256 → ∀ h, h < 2 → ((h * 128 + lo / 2) &&& 85) = (lo / 2 &&& 85) := by decide +kernel
theorem by2 : ∀ b, b < 256 → ∀ h, h < 4 → ((h * 64 + b / 4) &&& 51) = (b / 4 &&& 51) := by decide +kernel
def popc (b : Nat) : Nat := cnt (Nat.testBit b) 8
theorem by3 : ∀ lo, lo < 256 → bs1 85 lo < 256 ∧ bs2 51 (bs1 85 lo) % 16 ≤ 4 ∧ bs2 51 (bs1 85 lo) / 16 ≤ 4 ∧ bs2 51 (bs1 85 lo) % 16 + bs2 51 (bs1 85 lo) / 16 = popc lo := by decide +kernel
theorem popc_8 : ∀ b, b < 256 → popc b ≤ 8 := by decide +kernel
theorem bs1_step (n hi : Nat) {lo : Nat} (hlo : lo < 256) : bs1 (mk8 85 (n + 1)) (hi * 256 + lo) = bs1 (mk8 85 n) hi * 256 + bs1 85 lo := by
  unfold bs1
  rw [mk8, show (hi * 256 + lo) / 2 = hi / 2 * 256 + (hi % 2 * 128 + lo / 2) by omega, and_bytes _ _ (by omega) (by omega), by1 lo hlo (hi % 2) (by omega)]
  have h1 : hi / 2 &&& mk8 85 n ≤ hi / 2 := Nat.and_le_left
  have h2 : lo / 2 &&& 85 ≤ lo / 2 := Nat.and_le_left
  omega
theorem bs2_step (n a : Nat) {b : Nat} (hb : b < 256) : bs2 (mk8 51 (n + 1)) (a * 256 + b) = bs2 (mk8 51 n) a * 256 + bs2 51 b := by
  unfold bs2
  rw [mk8, show (a * 256 + b) / 4 = a / 4 * 256 + (a % 4 * 64 + b / 4) by omega, and_bytes _ _ hb (by omega), and_bytes _ _ (by omega) (by omega), by2 b hb (a % 4) (by omega)]
  omega
theorem bs3_step (n : Nat) {a b : Nat} (ha : a % 16 ≤ 4) (hb : b % 16 ≤ 4) (hb2 : b / 16 ≤ 4) : bs3 (mk8 15 (n + 1)) (a * 256 + b) = bs3 (mk8 15 n) a * 256 + (b % 16 + b / 16) := by
  unfold bs3
  rw [mk8, show a * 256 + b + (a * 256 + b) / 16 = (a + a / 16) * 256 + (b + a % 16 * 16 + b / 16) by omega, and_bytes _ _ (by omega) (by omega)]
  have h : (b + a % 16 * 16 + b / 16) &&& 15 = (b + a % 16 * 16 + b / 16) % 16 := Nat.and_two_pow_sub_one_eq_mod _ 4
  rw [h]
  omega
def rp8 : Nat → Nat → Nat
  | 0, _ => 0
  | n + 1, x => rp8 n (x / 256) * 256 + popc (x % 256)
theorem bs_t16 (n x : Nat) : bs2 (mk8 51 n) (bs1 (mk8 85 n) x) % 16 ≤ 4 := by
  cases n with
  | zero => simp [mk8, bs2, bs1]
  | succ n =>
    have e : x = x / 256 * 256 + x % 256 := by omega
    rw [e, bs1_step n _ (by omega), bs2_step n _ (by3 (x % 256) (by omega)).1]
    have := (by3 (x % 256) (by omega)).2.1
    omega
theorem bs_all : ∀ n x, bs3 (mk8 15 n) (bs2 (mk8 51 n) (bs1 (mk8 85 n) x)) = rp8 n x := by
  intro n
  induction n with
  | zero => intro x; simp [mk8, bs3, rp8]
  | succ n ih =>
    intro x
    have e : x = x / 256 * 256 + x % 256 := by omega
    obtain ⟨h1, h2, h3, h4⟩ := by3 (x % 256) (by omega)
    rw [rp8, ← ih (x / 256), ← h4]
    conv => lhs; rw [e]
    rw [bs1_step n _ (by omega), bs2_step n _ h1, bs3_step n (bs_t16 n _) h2 h3]
theorem cnt_byte (x m : Nat) : cnt (Nat.testBit x) (8 + m) = popc (x % 256) + cnt (Nat.testBit (x / 256)) m := by
  unfold cnt popc cnt
  rw [sw_add]
  have h1 : sw (fun _ => 1) (Nat.testBit x) 8 = sw (fun _ => 1) (Nat.testBit (x % 256)) 8 := sw_congr (fun i hi => by
    rw [show (256 : Nat) = 2 ^ 8 from rfl, Nat.testBit_mod_two_pow]; simp [hi])
  have h2 : sw (fun _ => 1) (fun i => Nat.testBit x (8 + i)) m = sw (fun _ => 1) (Nat.testBit (x / 256)) m := sw_congr (fun i hi => by
    rw [show (256 : Nat) = 2 ^ 8 from rfl, Nat.testBit_div_two_pow, Nat.add_comm])
  rw [h1, h2]
def bs4 (y : Nat) : Nat := y + y / 256
def bs5 (y : Nat) : Nat := y + y / 65536
def bs6 (y : Nat) : Nat := y + y / 4294967296
theorem dv {x d : Nat} (z : Nat) (h : x < d) : (x + d * z) / d = z := by
  rw [Nat.add_mul_div_left x z (Nat.lt_of_le_of_lt (Nat.zero_le _) h), Nat.div_eq_of_lt h, Nat.zero_add]
theorem pop_nat {x : Nat} (hx : x < 2 ^ 64) : rp8 8 x < 2 ^ 60 ∧ bs6 (bs5 (bs4 (rp8 8 x))) % 128 = cnt (Nat.testBit x) 64 := by
  have c0 := popc_8 (x % 256) (by omega)
  have c1 := popc_8 (x / 256 % 256) (by omega)
  have c2 := popc_8 (x / 256 / 256 % 256) (by omega)
  have c3 := popc_8 (x / 256 / 256 / 256 % 256) (by omega)
  have c4 := popc_8 (x / 256 / 256 / 256 / 256 % 256) (by omega)
  have c5 := popc_8 (x / 256 / 256 / 256 / 256 / 256 % 256) (by omega)
  have c6 := popc_8 (x / 256 / 256 / 256 / 256 / 256 / 256 % 256) (by omega)
  have c7 := popc_8 (x / 256 / 256 / 256 / 256 / 256 / 256 / 256 % 256) (by omega)
  have e : cnt (Nat.testBit x) 64 = popc (x % 256) + (popc (x / 256 % 256) + (popc (x / 256 / 256 % 256) + (popc (x / 256 / 256 / 256 % 256) + (popc (x / 256 / 256 / 256 / 256 % 256) + (popc (x / 256 / 256 / 256 / 256 / 256 % 256) + (popc (x / 256 / 256 / 256 / 256 / 256 / 256 % 256) + (popc (x / 256 / 256 / 256 / 256 / 256 / 256 / 256 % 256) + 0))))))) := by
    rw [show (64 : Nat) = 8 + 56 from rfl, cnt_byte, show (56 : Nat) = 8 + 48 from rfl, cnt_byte, show (48 : Nat) = 8 + 40 from rfl, cnt_byte, show (40 : Nat) = 8 + 32 from rfl, cnt_byte, show (32 : Nat) = 8 + 24 from rfl, cnt_byte, show (24 : Nat) = 8 + 16 from rfl, cnt_byte, show (16 : Nat) = 8 + 8 from rfl, cnt_byte, show cnt (Nat.testBit (x / 256 / 256 / 256 / 256 / 256 / 256 / 256)) 8 = cnt (Nat.testBit (x / 256 / 256 / 256 / 256 / 256 / 256 / 256)) (8 + 0) from rfl, cnt_byte]
    rfl
  rw [e]
  simp only [rp8, bs4, bs5, bs6]
  generalize popc (x % 256) = a0 at *
  generalize popc (x / 256 % 256) = a1 at *
  generalize popc (x / 256 / 256 % 256) = a2 at *
  generalize popc (x / 256 / 256 / 256 % 256) = a3 at *
  generalize popc (x / 256 / 256 / 256 / 256 % 256) = a4 at *
  generalize popc (x / 256 / 256 / 256 / 256 / 256 % 256) = a5 at *
  generalize popc (x / 256 / 256 / 256 / 256 / 256 / 256 % 256) = a6 at *
  generalize popc (x / 256 / 256 / 256 / 256 / 256 / 256 / 256 % 256) = a7 at *
  clear e hx
  have ey : ((((((((0 * 256 + a7) * 256 + a6) * 256 + a5) * 256 + a4) * 256 + a3) * 256 + a2) * 256 + a1) * 256 + a0) = a0 + 256 * (a1 + 256 * (a2 + 256 * (a3 + 256 * (a4 + 256 * (a5 + 256 * (a6 + 256 * a7)))))) := by omega
  rw [ey]
  clear ey
  have q1 : (a0 + 256 * (a1 + 256 * (a2 + 256 * (a3 + 256 * (a4 + 256 * (a5 + 256 * (a6 + 256 * a7))))))) / 256 = a1 + 256 * (a2 + 256 * (a3 + 256 * (a4 + 256 * (a5 + 256 * (a6 + 256 * a7))))) := dv _ (by omega)
  rw [q1]
  clear q1
  have q2 : a0 + 256 * (a1 + 256 * (a2 + 256 * (a3 + 256 * (a4 + 256 * (a5 + 256 * (a6 + 256 * a7)))))) + (a1 + 256 * (a2 + 256 * (a3 + 256 * (a4 + 256 * (a5 + 256 * (a6 + 256 * a7)))))) = (a0 + a1 + 256 * (a1 + a2)) + 65536 * ((a2 + a3) + 256 * (a3 + a4) + 65536 * ((a4 + a5) + 256 * (a5 + a6) + 65536 * ((a6 + a7) + 256 * a7))) := by omega
  rw [q2]
  clear q2
  have q3 : ((a0 + a1 + 256 * (a1 + a2)) + 65536 * ((a2 + a3) + 256 * (a3 + a4) + 65536 * ((a4 + a5) + 256 * (a5 + a6) + 65536 * ((a6 + a7) + 256 * a7)))) / 65536 = (a2 + a3) + 256 * (a3 + a4) + 65536 * ((a4 + a5) + 256 * (a5 + a6) + 65536 * ((a6 + a7) + 256 * a7)) := dv _ (by omega)
  rw [q3]
  clear q3
  have q4 : (a0 + a1 + 256 * (a1 + a2)) + 65536 * ((a2 + a3) + 256 * (a3 + a4) + 65536 * ((a4 + a5) + 256 * (a5 + a6) + 65536 * ((a6 + a7) + 256 * a7))) + ((a2 + a3) + 256 * (a3 + a4) + 65536 * ((a4 + a5) + 256 * (a5 + a6) + 65536 * ((a6 + a7) + 256 * a7))) = (a0 + a1 + a2 + a3 + 256 * (a1 + a2 + a3 + a4) + 65536 * (a2 + a3 + a4 + a5 + 256 * (a3 + a4 + a5 + a6))) + 4294967296 * ((a4 + a5 + a6 + a7) + 256 * (a5 + a6 + a7) + 65536 * (a6 + a7 + 256 * a7)) := by omega
  rw [q4]
  clear q4
  have q5 : ((a0 + a1 + a2 + a3 + 256 * (a1 + a2 + a3 + a4) + 65536 * (a2 + a3 + a4 + a5 + 256 * (a3 + a4 + a5 + a6))) + 4294967296 * ((a4 + a5 + a6 + a7) + 256 * (a5 + a6 + a7) + 65536 * (a6 + a7 + 256 * a7))) / 4294967296 = (a4 + a5 + a6 + a7) + 256 * (a5 + a6 + a7) + 65536 * (a6 + a7 + 256 * a7) := dv _ (by omega)
  rw [q5]
  clear q5
  have q6 : (a0 + a1 + a2 + a3 + 256 * (a1 + a2 + a3 + a4) + 65536 * (a2 + a3 + a4 + a5 + 256 * (a3 + a4 + a5 + a6))) + 4294967296 * ((a4 + a5 + a6 + a7) + 256 * (a5 + a6 + a7) + 65536 * (a6 + a7 + 256 * a7)) + ((a4 + a5 + a6 + a7) + 256 * (a5 + a6 + a7) + 65536 * (a6 + a7 + 256 * a7)) = (a0 + a1 + a2 + a3 + a4 + a5 + a6 + a7) + 128 * (2 * (a1 + a2 + a3 + a4) + 512 * (a2 + a3 + a4 + a5 + 256 * (a3 + a4 + a5 + a6)) + 33554432 * ((a4 + a5 + a6 + a7) + 256 * (a5 + a6 + a7) + 65536 * (a6 + a7 + 256 * a7)) + 2 * (a5 + a6 + a7) + 512 * (a6 + a7 + 256 * a7)) := by omega
  constructor
  · clear q6
    omega
  · have h8 : a0 + a1 + a2 + a3 + a4 + a5 + a6 + a7 < 128 := by clear q6; omega
    refine Eq.trans (congrArg (fun z => z % 128) q6) (Eq.trans (Nat.add_mul_mod_self_left _ _ _) (Eq.trans (Nat.mod_eq_of_lt h8) ?_))
    clear q6 h8
    omega
end
section
/-! what the class's methods answer, as functions of numbers -/
def mc_covf (pla : Nat → Int64) (sm : Int64) : Nat → Int64 → Int64 := fun i a => if zb sm i = true then a ||| pla i else a
def mc_svf (pla : Nat → Int64) (q : Nat) : Nat → Int64 → Int64 := fun i a => a ||| (((pla i >>> ((nI q).toInt64 &&& 63)) &&& 1) <<< ((nI i).toInt64 &&& 63))
def mc_outf (w : Int32) (zer : Nat → Int32) : Nat → Int32 → Int32 := fun o a => if w &&& zer o = 0 then a ||| (1 <<< (nI o &&& 31)) else a
def mc_plf (f : Nat → Int32) (wh : Int32) : Nat → Int64 → Int64 := fun o a => if (wh >>> (nI o &&& 31)) &&& 1 = 0 then a else a ||| ((f o).toInt64 <<< ((nI (16 * o)).toInt64 &&& 63))
def mc_wideP (oop : Nat → Int32) (p k : Nat) : Bool := !decide (wop p k = p) && decide (oop (wop p k) = oop p)
def mc_isc (oop : Nat → Int32) (p : Nat) : Bool := !decide (oop p = 0) && !exn 4 (mc_wideP oop p)
/-- an unsigned shift to the right -/
def ush (x : Int64) (k : Int32) : Int64 := (x.toUInt64 >>> (k.toInt64.toUInt64 &&& Int64.toUInt64 63)).toInt64
theorem wb_uc : ∀ k, k < 64 → ((nI k).toInt64.toUInt64 &&& Int64.toUInt64 63) = UInt64.ofNat k := by decide +kernel
def nL (x : Int64) : Nat := x.toBitVec.toNat
theorem nL_lt (x : Int64) : nL x < 2 ^ 64 := x.toBitVec.isLt
theorem nL_zb (x : Int64) (i : Nat) : zb x i = (nL x).testBit i := rfl
theorem nL_and (x y : Int64) : nL (x &&& y) = nL x &&& nL y := by simp [nL]
theorem nL_add (x y : Int64) : nL (x + y) = (nL x + nL y) % 2 ^ 64 := by simp [nL]
theorem nL_sub {x y : Int64} (h : nL y ≤ nL x) : nL (x - y) = nL x - nL y := by
  have h1 := nL_lt x
  have h2 := nL_lt y
  unfold nL at *
  rw [Int64.toBitVec_sub, BitVec.toNat_sub]
  omega
theorem nL_ush (x : Int64) {k : Nat} (hk : k < 64) : nL (ush x (nI k)) = nL x / 2 ^ k := by
  unfold nL ush
  rw [wb_uc k hk]
  have e : (UInt64.ofNat k).toNat = k := by simp [UInt64.toNat_ofNat]; omega
  simp [Nat.shiftRight_eq_div_pow, e, Nat.mod_eq_of_lt hk]
def mp1 (x : Int64) : Int64 := x - (ush x 1 &&& 6148914691236517205)
def mp2 (x : Int64) : Int64 := (x &&& 3689348814741910323) + (ush x 2 &&& 3689348814741910323)
def mp3 (x : Int64) : Int64 := (x + ush x 4) &&& 1085102592571150095
def mp4 (x : Int64) : Int64 := x + ush x 8
def mp5 (x : Int64) : Int64 := x + ush x 16
def mp6 (x : Int64) : Int64 := x + ush x 32
/-- Long.bitCount -/
def m_pop (x : Int64) : Int32 := (mp6 (mp5 (mp4 (mp3 (mp2 (mp1 x)))))).toInt32 &&& 127
theorem mk85 : nL 6148914691236517205 = mk8 85 8 := by decide +kernel
theorem mk51 : nL 3689348814741910323 = mk8 51 8 := by decide +kernel
theorem mk15 : nL 1085102592571150095 = mk8 15 8 := by decide +kernel
theorem m_pop_ok (x : Int64) : m_pop x = nI (cnt (zb x) 64) := by
  have hx := nL_lt x
  have h1 : nL (mp1 x) = bs1 (mk8 85 8) (nL x) := by
    have e : nL (ush x 1 &&& 6148914691236517205) = nL x / 2 &&& mk8 85 8 := by
      rw [nL_and, mk85, show (1 : Int32) = nI 1 from rfl, nL_ush x (by omega)]
    unfold mp1 bs1
    rw [nL_sub (by rw [e]; exact Nat.le_trans Nat.and_le_left (by omega)), e]
  have h2 : nL (mp2 (mp1 x)) = bs2 (mk8 51 8) (nL (mp1 x)) := by
    have hq := nL_lt (mp1 x)
    have b1 : nL (mp1 x) &&& mk8 51 8 ≤ mk8 51 8 := Nat.and_le_right
    have b2 : nL (mp1 x) / 4 &&& mk8 51 8 ≤ mk8 51 8 := Nat.and_le_right
    have b3 : mk8 51 8 < 2 ^ 62 := by decide +kernel
    unfold mp2 bs2
    rw [nL_add, nL_and, nL_and, mk51, show (2 : Int32) = nI 2 from rfl, nL_ush _ (by omega)]
    exact Nat.mod_eq_of_lt (by show _ + (_ / 4 &&& _) < _; omega)
  have h3 : nL (mp3 (mp2 (mp1 x))) = bs3 (mk8 15 8) (nL (mp2 (mp1 x))) := by
    have b3 : mk8 51 8 < 2 ^ 62 := by decide +kernel
    have b4 : nL (mp2 (mp1 x)) < 2 ^ 63 := by
      rw [h2]; unfold bs2
      have b1 : nL (mp1 x) &&& mk8 51 8 ≤ mk8 51 8 := Nat.and_le_right
      have b2 : nL (mp1 x) / 4 &&& mk8 51 8 ≤ mk8 51 8 := Nat.and_le_right
      omega
    unfold mp3 bs3
    rw [nL_and, nL_add, mk15, show (4 : Int32) = nI 4 from rfl, nL_ush _ (by omega)]
    rw [Nat.mod_eq_of_lt (by show _ + _ / 16 < _; omega)]
  have h4 : nL (mp3 (mp2 (mp1 x))) = rp8 8 (nL x) := by rw [h3, h2, h1, bs_all]
  obtain ⟨hb, hp⟩ := pop_nat hx
  generalize hy : mp3 (mp2 (mp1 x)) = y at h4
  have h5 : nL (mp4 y) = bs4 (nL y) := by
    unfold mp4 bs4
    rw [nL_add, show (8 : Int32) = nI 8 from rfl, nL_ush _ (by omega)]
    exact Nat.mod_eq_of_lt (by show _ + _ / 256 < _; omega)
  have h6 : nL (mp5 (mp4 y)) = bs5 (nL (mp4 y)) := by
    have : nL (mp4 y) < 2 ^ 61 := by rw [h5]; unfold bs4; omega
    unfold mp5 bs5
    rw [nL_add, show (16 : Int32) = nI 16 from rfl, nL_ush _ (by omega)]
    exact Nat.mod_eq_of_lt (by show _ + _ / 65536 < _; omega)
  have h7 : nL (mp6 (mp5 (mp4 y))) = bs6 (nL (mp5 (mp4 y))) := by
    have : nL (mp5 (mp4 y)) < 2 ^ 62 := by rw [h6, h5]; unfold bs5 bs4; omega
    unfold mp6 bs6
    rw [nL_add, show (32 : Int32) = nI 32 from rfl, nL_ush _ (by omega)]
    exact Nat.mod_eq_of_lt (by show _ + _ / 4294967296 < _; omega)
  have e : cnt (zb x) 64 = cnt (Nat.testBit (nL x)) 64 := rfl
  rw [e, ← hp, ← h4, ← h5, ← h6, ← h7]
  unfold m_pop
  rw [hy, pk_and _ 7 rfl]
  generalize mp6 (mp5 (mp4 y)) = z
  have ez : z.toInt32.toBitVec.toNat = nL z % 2 ^ 32 := by
    unfold nL
    rw [Int64.toBitVec_toInt32]
    simp [BitVec.signExtend_eq_setWidth_of_le]
  rw [ez]
  congr 1
  omega
def mc_lonf (pla : Nat → Int64) : Nat → Int64 × Int64 → Int64 × Int64 := fun i a => (a.1 ||| pla i, a.2 ||| (a.1 &&& pla i))
/-- the bits of a place that a candidate at product p serves -/
def mc_pla (one : Nat → Int32) (w ou : Int32) : Int64 := ((w.toInt64 <<< ((16 : Int32).toInt64 &&& 63)) ||| w.toInt64) &&& fo (mc_plf one ou) 2 0
def mc_lbf (bs : Int64) (siz : Nat → Int32) : Nat → (Nat → Int32) × Nat × Int32 → (Nat → Int32) × Nat × Int32 := fun i a => if zb bs i = true then (upd a.1 a.2.1 (nI i), a.2.1 + 1, a.2.2 + siz i) else a
def mc_wef (siz : Nat → Int32) : Nat → (Nat → Int32) → (Nat → Int32) := fun i f => upd f i (1000 + siz i)
def mc_sef (pla : Nat → Int64) (cn : Nat) : Nat → (Nat → Int64) → (Nat → Int64) := fun q f => vp_updL f q (fo (mc_svf pla q) cn 0)
def mc_thf (num : Nat → Int32) (fm : Int32) : Nat → Int64 → Int64 := fun i a => if num i < fm then a else a ||| zo i
def mc_th2f (pla : Nat → Int64) (due : Int64) (cn : Nat) : Nat → Int64 → Int64 := fun k a => if a &&& (zo (cn - 1 - k) ^^^ (-1)) = a then a else if decide (fo (mc_covf pla (a &&& (zo (cn - 1 - k) ^^^ (-1)))) cn 0 = due) = true then a &&& (zo (cn - 1 - k) ^^^ (-1)) else a
def mc_thin (num : Nat → Int32) (pla : Nat → Int64) (due : Int64) (cn : Nat) (fm : Int32) : Int32 := if decide (fo (mc_covf pla (fo (mc_thf num fm) cn 0)) cn 0 = due) = true then m_pop (fo (mc_th2f pla due cn) cn (fo (mc_thf num fm) cn 0)) else -1
theorem th_neg {cn k : Nat} (hc : cn ≤ 63) (hk : k ≤ cn) : nI (cn - k) - 1 < 0 ↔ cn = k := by
  rcases Nat.lt_or_ge k cn with h | h
  · have e : nI (cn - k) - 1 = nI (cn - 1 - k) := by
      rw [show cn - k = (cn - 1 - k) + 1 by omega, nI_pred]
    rw [e]
    constructor
    · intro h1; exact absurd h1 (nI_pos (by omega))
    · intro h1; omega
  · have : cn = k := by omega
    subst this
    rw [Nat.sub_self]
    exact ⟨fun _ => rfl, fun _ => by decide⟩
theorem th_idx {cn k : Nat} (hk : k < cn) : nI (cn - k) - 1 = nI (cn - 1 - k) := by
  rw [show cn - k = (cn - 1 - k) + 1 by omega, nI_pred]
def mc_oneP (out inp : Nat → Int32) (pkn : Nat → Nat) (oo xx : Int32) (k : Nat) : Bool := !decide ((out (pkn k) >>> (oo &&& 31)) &&& 1 = 0) && !decide ((inp (pkn k) >>> (xx &&& 31)) &&& 1 = 0)
theorem zb_tzn (x : Int64) {i : Nat} (h : i < 64) : ¬ x &&& zo i = 0 ↔ zb x i = true := by
  rw [zb_tz x h]; simp
end
section
/-! products as numbers -/
def tpow (j : Nat) : Nat := 3 ^ j
theorem tpow_pos (k : Nat) : 0 < tpow k := Nat.pow_pos (by decide)
theorem tpow_lt {k : Nat} (h : k < 4) : tpow k < 2 ^ 31 := by
  have : ∀ k, k < 4 → tpow k < 2 ^ 31 := by decide
  exact this k h
theorem tpow_81 {k : Nat} (h : k ≤ 4) : tpow k ≤ 81 := by
  have : ∀ k, k < 5 → tpow k ≤ 81 := by decide
  exact this k (by omega)
theorem div_lt {p d : Nat} (h : p < 81) : p / d < 2 ^ 31 := Nat.lt_of_le_of_lt (Nat.div_le_self p d) (by omega)
theorem wop_le (p k : Nat) : p / tpow k % 3 * tpow k ≤ p :=
  Nat.le_trans (Nat.mul_le_mul_right _ (Nat.mod_le _ _)) (Nat.div_mul_le_self p (tpow k))
theorem wop_le2 (p k : Nat) : wop p k ≤ p := Nat.sub_le _ _
def mc_dsf (pn : Nat) : Nat → Nat × Nat → Nat × Nat := fun k a => if pn / 3 ^ k % 3 = 1 then (a.1 &&& iset k, a.2 + 1) else if pn / 3 ^ k % 3 = 2 then (a.1 &&& (65535 ^^^ iset k), a.2 + 1) else a
theorem nI_and (a b : Nat) : nI a &&& nI b = nI (a &&& b) := by
  apply Int32.toBitVec_inj.1
  apply BitVec.eq_of_getLsbD_eq
  intro i hi
  show ((BitVec.ofNat 32 a) &&& (BitVec.ofNat 32 b)).getLsbD i = (BitVec.ofNat 32 (a &&& b)).getLsbD i
  simp [BitVec.getLsbD_ofNat, Nat.testBit_and, hi]
theorem nI_xor (a b : Nat) : nI a ^^^ nI b = nI (a ^^^ b) := by
  apply Int32.toBitVec_inj.1
  apply BitVec.eq_of_getLsbD_eq
  intro i hi
  show ((BitVec.ofNat 32 a) ^^^ (BitVec.ofNat 32 b)).getLsbD i = (BitVec.ofNat 32 (a ^^^ b)).getLsbD i
  simp [BitVec.getLsbD_ofNat, Nat.testBit_xor, hi]
theorem nI_or (a b : Nat) : nI a ||| nI b = nI (a ||| b) := by
  apply Int32.toBitVec_inj.1
  apply BitVec.eq_of_getLsbD_eq
  intro i hi
  show ((BitVec.ofNat 32 a) ||| (BitVec.ofNat 32 b)).getLsbD i = (BitVec.ofNat 32 (a ||| b)).getLsbD i
  simp [BitVec.getLsbD_ofNat, Nat.testBit_or, hi]
theorem land_cut {a : Nat} (h : a < 65536) (b : Nat) : a &&& (b ^^^ 4294967295) = a &&& (65535 ^^^ b) := by
  apply Nat.eq_of_testBit_eq
  intro i
  rw [Nat.testBit_and, Nat.testBit_and, Nat.testBit_xor, Nat.testBit_xor]
  rcases Nat.lt_or_ge i 16 with hi | hi
  · rw [show (4294967295 : Nat) = 2 ^ 32 - 1 from rfl, show (65535 : Nat) = 2 ^ 16 - 1 from rfl, Nat.testBit_two_pow_sub_one, Nat.testBit_two_pow_sub_one]
    have : decide (i < 32) = true := decide_eq_true (by omega)
    rw [this, decide_eq_true hi]
    cases Nat.testBit b i <;> rfl
  · rw [Nat.testBit_lt_two_pow (x := a) (i := i) (Nat.lt_of_lt_of_le h (show 65536 ≤ 2 ^ i from Nat.pow_le_pow_right (n := 2) (by decide) hi))]
    rfl
theorem ds_not {a : Nat} (h : a < 65536) (b : Nat) : nI a &&& (nI b ^^^ (-1)) = nI (a &&& (65535 ^^^ b)) := by
  rw [show (-1 : Int32) = nI 4294967295 from rfl, nI_xor, nI_and, land_cut h]
theorem ds_back {pn kv : Nat} (h1 : (fo (mc_dsf pn) kv (65535, 0)).1 < 65536) (h2 : (fo (mc_dsf pn) kv (65535, 0)).2 ≤ kv) : (fo (mc_dsf pn) (kv + 1) (65535, 0)).1 < 65536 ∧ (fo (mc_dsf pn) (kv + 1) (65535, 0)).2 ≤ kv + 1 := by
  rw [fo_s]
  generalize fo (mc_dsf pn) kv (65535, 0) = a at h1 h2 ⊢
  unfold mc_dsf
  have b1 : ∀ z, a.1 &&& z ≤ a.1 := fun z => Nat.and_le_left
  split
  · exact ⟨Nat.lt_of_le_of_lt (b1 _) h1, by show a.2 + 1 ≤ kv + 1; omega⟩
  · split
    · exact ⟨Nat.lt_of_le_of_lt (b1 _) h1, by show a.2 + 1 ≤ kv + 1; omega⟩
    · exact ⟨h1, by omega⟩
end
section
/-! filling the table of candidates, as functions of numbers -/
def mc_oof (pin zer : Nat → Int32) (mo : Nat) : Nat → (Nat → Int32) → (Nat → Int32) := fun p f => upd f p (fo (mc_outf (pin p) zer) mo 0)
abbrev FT : Type := Nat × (Nat → Int32) × (Nat → Int32) × (Nat → Int32) × (Nat → Int32) × (Nat → Int64)
def mc_filf (one pin psz oop : Nat → Int32) : Nat → FT → FT := fun p a => if mc_isc oop p = true then (a.1 + 1, upd a.2.1 a.1 (nI p), upd a.2.2.1 a.1 (oop p), upd a.2.2.2.1 a.1 (psz p), upd a.2.2.2.2.1 a.1 (pin p), vp_updL a.2.2.2.2.2 a.1 (mc_pla one (pin p) (oop p))) else a
theorem mc_filf_t {one pin psz oop : Nat → Int32} {p : Nat} (h : mc_isc oop p = true) (a : FT) : mc_filf one pin psz oop p a = (a.1 + 1, upd a.2.1 a.1 (nI p), upd a.2.2.1 a.1 (oop p), upd a.2.2.2.1 a.1 (psz p), upd a.2.2.2.2.1 a.1 (pin p), vp_updL a.2.2.2.2.2 a.1 (mc_pla one (pin p) (oop p))) := if_pos h
theorem mc_filf_f {one pin psz oop : Nat → Int32} {p : Nat} (h : mc_isc oop p = false) (a : FT) : mc_filf one pin psz oop p a = a := if_neg (by rw [h]; decide)
def mc_lon (pla : Nat → Int64) (cn : Nat) : Int64 := (fo (mc_lonf pla) cn (0, 0)).1 &&& ((fo (mc_lonf pla) cn (0, 0)).2 ^^^ (-1))
def mc_setf (v : Int32) : Nat → (Nat → Int32) → (Nat → Int32) := fun o f => upd f o v
def mc_all (ic : Int32) : Int32 := ((1 : Int32) <<< (((1 : Int32) <<< (ic &&& 31)) &&& 31)) - 1
/-- a table: count, numbers, outputs, sizes, inputs, places, due places, lonely places, outputs of products -/
abbrev TB : Type := Nat × (Nat → Int32) × (Nat → Int32) × (Nat → Int32) × (Nat → Int32) × (Nat → Int64) × Int64 × Int64 × (Nat → Int32)
def m_fill (nn mo : Nat) (one zer pin psz : Nat → Int32) (t : TB) : TB :=
  ((fo (mc_filf one pin psz (fo (mc_oof pin zer mo) (tpow nn) t.2.2.2.2.2.2.2.2)) (tpow nn) (0, t.2.1, t.2.2.1, t.2.2.2.1, t.2.2.2.2.1, t.2.2.2.2.2.1)).1,
   (fo (mc_filf one pin psz (fo (mc_oof pin zer mo) (tpow nn) t.2.2.2.2.2.2.2.2)) (tpow nn) (0, t.2.1, t.2.2.1, t.2.2.2.1, t.2.2.2.2.1, t.2.2.2.2.2.1)).2.1,
   (fo (mc_filf one pin psz (fo (mc_oof pin zer mo) (tpow nn) t.2.2.2.2.2.2.2.2)) (tpow nn) (0, t.2.1, t.2.2.1, t.2.2.2.1, t.2.2.2.2.1, t.2.2.2.2.2.1)).2.2.1,
   (fo (mc_filf one pin psz (fo (mc_oof pin zer mo) (tpow nn) t.2.2.2.2.2.2.2.2)) (tpow nn) (0, t.2.1, t.2.2.1, t.2.2.2.1, t.2.2.2.2.1, t.2.2.2.2.2.1)).2.2.2.1,
   (fo (mc_filf one pin psz (fo (mc_oof pin zer mo) (tpow nn) t.2.2.2.2.2.2.2.2)) (tpow nn) (0, t.2.1, t.2.2.1, t.2.2.2.1, t.2.2.2.2.1, t.2.2.2.2.2.1)).2.2.2.2.1,
   (fo (mc_filf one pin psz (fo (mc_oof pin zer mo) (tpow nn) t.2.2.2.2.2.2.2.2)) (tpow nn) (0, t.2.1, t.2.2.1, t.2.2.2.1, t.2.2.2.2.1, t.2.2.2.2.2.1)).2.2.2.2.2,
   fo (mc_plf one 3) 2 0,
   mc_lon (fo (mc_filf one pin psz (fo (mc_oof pin zer mo) (tpow nn) t.2.2.2.2.2.2.2.2)) (tpow nn) (0, t.2.1, t.2.2.1, t.2.2.2.1, t.2.2.2.2.1, t.2.2.2.2.2.1)).2.2.2.2.2 (fo (mc_filf one pin psz (fo (mc_oof pin zer mo) (tpow nn) t.2.2.2.2.2.2.2.2)) (tpow nn) (0, t.2.1, t.2.2.1, t.2.2.2.1, t.2.2.2.2.1, t.2.2.2.2.2.1)).1,
   fo (mc_oof pin zer mo) (tpow nn) t.2.2.2.2.2.2.2.2)
def m_gath (ga : Int32) (nn mo : Nat) (one zer pin psz : Nat → Int32) (t : TB) : TB := if ga = 0 then m_fill nn mo one zer pin psz t else t
/-- a search: picked, how many, their parts, weights, servers, best weight, best set -/
abbrev SB : Type := (Nat → Int32) × Nat × Int32 × (Nat → Int32) × (Nat → Int64) × Int32 × Int64
def m_exl (t : TB) (b : SB) : Int32 × Int64 := m_ext m_pop t.1 t.2.2.2.2.2.1 (fo (mc_wef t.2.2.2.1) t.1 b.2.2.2.1) (fo (mc_sef t.2.2.2.2.2.1 t.1) 32 b.2.2.2.2.1) 32 t.2.2.2.2.2.2.1 (zo t.1 - 1) 0 0 (1000000, 0)
def m_least (t : TB) (b : SB) : SB :=
  ((fo (mc_lbf (m_exl t b).2 t.2.2.2.1) t.1 (b.1, 0, 0)).1, (fo (mc_lbf (m_exl t b).2 t.2.2.2.1) t.1 (b.1, 0, 0)).2.1, (fo (mc_lbf (m_exl t b).2 t.2.2.2.1) t.1 (b.1, 0, 0)).2.2,
   fo (mc_wef t.2.2.2.1) t.1 b.2.2.2.1, fo (mc_sef t.2.2.2.2.2.1 t.1) 32 b.2.2.2.2.1, (m_exl t b).1, (m_exl t b).2)
def m_solv (se : Int32) (t : TB) (b : SB) : SB := if se = 0 then m_least t b else b
/-- a mark that is set -/
def gs (x : Int32) : Int32 := if x = 0 then 1 else x
end
section
/-! the least cover -/
/-- B is the least set of candidates that serves O: lightest; of these the first -/
def LeastOf (c : Nat) (pl : Nat → Int64) (wn : Nat → Nat) (O B : Int64) : Prop := (∀ i, zb B i = true → i < c) ∧ Cov c pl O (zb B) ∧ ∀ S : Nat → Bool, (∀ i, S i = true → i < c) → Cov c pl O S → ¬ Bet (sw wn S c) S (sw wn (zb B) c) (zb B)
theorem least_one {c : Nat} {pl : Nat → Int64} {wn : Nat → Nat} {O B B' : Int64} (h : LeastOf c pl wn O B) (h' : LeastOf c pl wn O B') : B = B' := by
  have h1 := h.2.2 (zb B') h'.1 h'.2.1
  have h2 := h'.2.2 (zb B) h.1 h.2.1
  have hw : sw wn (zb B) c = sw wn (zb B') c := by
    rcases Nat.lt_trichotomy (sw wn (zb B) c) (sw wn (zb B') c) with q | q | q
    · exact absurd (Or.inl q) h2
    · exact q
    · exact absurd (Or.inl q) h1
  exact zb_ext (fun i _ => lex_tot (fun q => h2 (Or.inr ⟨hw, q⟩)) (fun q => h1 (Or.inr ⟨hw.symm, q⟩)) i)
theorem sv_ok {pl : Nat → Int64} {q : Nat} (hq : q < 32) : ∀ c, c ≤ 63 → ∀ i, zb (fo (mc_svf pl q) c 0) i = (decide (i < c) && zb (pl i) q) := by
  intro c
  induction c with
  | zero => intro _ i; rw [fo_0, zb_0]; simp
  | succ c ih =>
    intro hc i
    have hb : ∀ (x : Int64) (j : Nat), zb (((x >>> ((nI q).toInt64 &&& 63)) &&& 1) <<< ((nI c).toInt64 &&& 63)) j = (decide (j = c) && zb x q) := by
      intro x j
      have e : (x >>> ((nI q).toInt64 &&& 63)) &&& 1 = if zb x q = true then 1 else 0 := by
        apply zb_ext
        intro k hk
        rw [zb_and, zb_1]
        by_cases h0 : k = 0
        · subst h0
          rw [zb_sar x (by omega)]
          cases zb x q <;> simp [zb_0, zb_1]
        · cases zb x q <;> simp [zb_0, zb_1, h0]
      rw [e]
      cases hz : zb x q with
      | true =>
        rw [if_pos rfl]
        show zb (zo c) j = _
        rw [zb_zo (by omega)]; simp
      | false =>
        rw [if_neg (by decide)]
        have : ∀ k, k < 64 → (0 : Int64) <<< ((nI k).toInt64 &&& 63) = 0 := by decide +kernel
        rw [this c (by omega), zb_0]; simp
    rw [fo_s]
    unfold mc_svf
    rw [zb_or, hb]
    have := ih (by omega) i
    unfold mc_svf at this
    rw [this]
    by_cases hi : i = c
    · subst hi; simp
    · have e : decide (i < c + 1) = decide (i < c) := by simp; omega
      rw [e]; simp [hi]
theorem sef_at {pla : Nat → Int64} {cn : Nat} {ser : Nat → Int64} : ∀ n q, q < n → (fo (mc_sef pla cn) n ser) q = fo (mc_svf pla q) cn 0 := by
  intro n
  induction n with
  | zero => intro q h; omega
  | succ n ih =>
    intro q h
    rw [fo_s]
    unfold mc_sef
    by_cases hq : q = n
    · subst hq; exact pk_uLs
    · rw [pk_uLn hq]
      exact ih q (by omega)
theorem wef_at {siz : Nat → Int32} {wei : Nat → Int32} : ∀ n i, i < n → (fo (mc_wef siz) n wei) i = 1000 + siz i := by
  intro n
  induction n with
  | zero => intro i h; omega
  | succ n ih =>
    intro i h
    rw [fo_s]
    unfold mc_wef
    by_cases hq : i = n
    · subst hq; exact pk_us
    · rw [pk_un hq]
      exact ih i (by omega)
/-- what findLeast's search finds -/
theorem ext_least (pop : Int64 → Int32) {c : Nat} {pl : Nat → Int64} {siz wei : Nat → Int32} {sz : Nat → Nat} {ser : Nat → Int64} {O : Int64} (hc : c ≤ 63) (hs : ∀ i, i < c → siz i = nI (sz i) ∧ sz i ≤ 4) (h32 : ∀ q, zb O q = true → q < 32) (hcov : Cov c pl O (fun i => decide (i < c))) :
    ∃ B, m_ext pop c pl (fo (mc_wef siz) c wei) (fo (mc_sef pl c) 32 ser) 32 O (zo c - 1) 0 0 (1000000, 0) = (nI (sw (fun i => 1000 + sz i) (zb B) c), B) ∧ LeastOf c pl (fun i => 1000 + sz i) O B := by
  have hw : ∀ i, i < c → (fo (mc_wef siz) c wei) i = nI (1000 + sz i) ∧ 0 < 1000 + sz i ∧ 1000 + sz i < 2 ^ 20 := fun i hi => by
    obtain ⟨e, h4⟩ := hs i hi
    refine ⟨?_, by omega, by omega⟩
    rw [wef_at c i hi, e, show (1000 : Int32) = nI 1000 from rfl, nI_add]
  have hsv : ∀ q i, q < 32 → zb ((fo (mc_sef pl c) 32 ser) q) i = (decide (i < c) && zb (pl i) q) := fun q i hq => by
    rw [sef_at 32 q hq, sv_ok hq c hc i]
  have hle : ∀ S : Nat → Bool, sw (fun i => 1000 + sz i) S c ≤ c * 1004 := fun S => sw_le (fun i hi => by have := (hs i hi).2; omega)
  have hpc : pcn O ≤ 32 := by
    have := sw_le (w := fun _ => 1) (S := zb O) (n := 32) (m := 1) (fun _ _ => Nat.le_refl 1)
    unfold pcn; omega
  obtain ⟨bw, bs, h1, h2, h3, h4, h5⟩ := ext_ok pop hc hw hsv 32 O (zo c - 1) 0 0 1000000 0 h32 hpc (fun k hk => by
    rw [zb_full (by omega)] at hk
    exact ⟨of_decide_eq_true hk, zb_0 k⟩) (by have := hle (zb (zo c - 1)); have : c * 1004 ≤ 63 * 1004 := Nat.mul_le_mul_right _ hc; omega) (Nat.le_refl _)
  have hsub : ∀ S : Nat → Bool, (∀ i, S i = true → i < c) → Sub c S (zo c - 1) := fun S h i hi => ⟨h i hi, by rw [zb_full (by omega)]; exact decide_eq_true (h i hi)⟩
  have hun : ∀ (S : Nat → Bool) i, un 0 S i = S i := fun S i => by
    show (zb 0 i || S i) = S i
    rw [zb_0]; rfl
  rcases h3 with ⟨e1, e2⟩ | ⟨S, s1, s2, s3, s4⟩
  · exfalso
    subst e1; subst e2
    refine h4 (fun i => decide (i < c)) (hsub _ (fun i hi => of_decide_eq_true hi)) hcov (Or.inl ?_)
    have := hle (fun i => decide (i < c))
    have : c * 1004 ≤ 63 * 1004 := Nat.mul_le_mul_right _ hc
    omega
  · have e : ∀ i, zb bs i = S i := fun i => by rw [s4 i, hun]
    have ew : sw (fun i => 1000 + sz i) (zb bs) c = sw (fun i => 1000 + sz i) S c := sw_congr (fun i _ => e i)
    refine ⟨bs, ?_, fun i hi => (s1 i (by rw [← e i]; exact hi)).1, fun q hq => ?_, fun T t1 t2 hB => ?_⟩
    · rw [show (0 : Int32) = nI 0 from rfl, show (1000000 : Int32) = nI 1000000 from rfl, h1, ew, s3, Nat.zero_add]
    · obtain ⟨i, a1, a2, a3⟩ := s2 q hq
      exact ⟨i, a1, by rw [e i]; exact a2, a3⟩
    · refine h4 T (hsub T t1) t2 ?_
      rw [s3, Nat.zero_add, Nat.zero_add, ← ew]
      exact bet_congr (fun i => (hun T i).symm) (fun _ => rfl) hB
end
section
/-! the table of candidates, place by place -/
theorem cnt_s (P : Nat → Bool) (n : Nat) : cnt P (n + 1) = cnt P n + (if P n = true then 1 else 0) := rfl
theorem cnt_le (P : Nat → Bool) {a b : Nat} (h : a ≤ b) : cnt P a ≤ cnt P b := by
  induction b with
  | zero => have : a = 0 := by omega
            subst this; exact Nat.le_refl _
  | succ b ih =>
    rw [cnt_s]
    by_cases h1 : a = b + 1
    · subst h1; rw [cnt_s]; exact Nat.le_refl _
    · have := ih (by omega); omega
theorem cnt_lt {P : Nat → Bool} {p n : Nat} (h : p < n) (hp : P p = true) : cnt P p < cnt P n := by
  have h1 := cnt_le P (show p + 1 ≤ n from h)
  rw [cnt_s, if_pos hp] at h1
  omega
theorem cnt_inj {P : Nat → Bool} {p q : Nat} (hp : P p = true) (hq : P q = true) (h : cnt P p = cnt P q) : p = q := by
  rcases Nat.lt_trichotomy p q with g | g | g
  · have := cnt_lt g hp; omega
  · exact g
  · have := cnt_lt g hq; omega
theorem cnt_surj {P : Nat → Bool} {i : Nat} : ∀ {n : Nat}, i < cnt P n → ∃ p, p < n ∧ P p = true ∧ cnt P p = i := by
  intro n
  induction n with
  | zero => intro h; exact absurd h (Nat.not_lt_zero _)
  | succ n ih =>
    intro h
    rw [cnt_s] at h
    by_cases hi : i < cnt P n
    · obtain ⟨p, h1, h2, h3⟩ := ih hi
      exact ⟨p, by omega, h2, h3⟩
    · by_cases hp : P n = true
      · rw [if_pos hp] at h
        exact ⟨n, by omega, hp, by omega⟩
      · rw [if_neg hp] at h; omega
theorem cnt_bound (P : Nat → Bool) (n : Nat) : cnt P n ≤ n := by
  have := sw_le (w := fun _ => 1) (S := P) (n := n) (m := 1) (fun _ _ => Nat.le_refl 1)
  unfold cnt; omega
theorem fill_ok (one pin psz oop : Nat → Int32) (num out siz inp : Nat → Int32) (pla : Nat → Int64) : ∀ n, (fo (mc_filf one pin psz oop) n (0, num, out, siz, inp, pla)).1 = cnt (mc_isc oop) n ∧ ∀ p, p < n → mc_isc oop p = true →
    (fo (mc_filf one pin psz oop) n (0, num, out, siz, inp, pla)).2.1 (cnt (mc_isc oop) p) = nI p ∧ (fo (mc_filf one pin psz oop) n (0, num, out, siz, inp, pla)).2.2.1 (cnt (mc_isc oop) p) = oop p ∧ (fo (mc_filf one pin psz oop) n (0, num, out, siz, inp, pla)).2.2.2.1 (cnt (mc_isc oop) p) = psz p ∧ (fo (mc_filf one pin psz oop) n (0, num, out, siz, inp, pla)).2.2.2.2.1 (cnt (mc_isc oop) p) = pin p ∧ (fo (mc_filf one pin psz oop) n (0, num, out, siz, inp, pla)).2.2.2.2.2 (cnt (mc_isc oop) p) = mc_pla one (pin p) (oop p) := by
  intro n
  induction n with
  | zero => exact ⟨rfl, fun p h => absurd h (Nat.not_lt_zero _)⟩
  | succ n ih =>
    obtain ⟨h1, h2⟩ := ih
    rw [fo_s]
    generalize fo (mc_filf one pin psz oop) n (0, num, out, siz, inp, pla) = a at h1 h2 ⊢
    cases hn : mc_isc oop n with
    | true =>
      rw [mc_filf_t hn, cnt_s, if_pos hn]
      refine ⟨by show a.1 + 1 = _; rw [h1], fun p hp hq => ?_⟩
      show upd a.2.1 a.1 (nI n) _ = _ ∧ upd a.2.2.1 a.1 (oop n) _ = _ ∧ upd a.2.2.2.1 a.1 (psz n) _ = _ ∧ upd a.2.2.2.2.1 a.1 (pin n) _ = _ ∧ vp_updL a.2.2.2.2.2 a.1 (mc_pla one (pin n) (oop n)) _ = _
      rw [h1]
      by_cases hpn : p = n
      · subst hpn
        exact ⟨pk_us, pk_us, pk_us, pk_us, pk_uLs⟩
      · have hne : cnt (mc_isc oop) p ≠ cnt (mc_isc oop) n := fun h => hpn (cnt_inj hq hn h)
        rw [pk_un hne, pk_un hne, pk_un hne, pk_un hne, pk_uLn hne]
        exact h2 p (by omega) hq
    | false =>
      rw [mc_filf_f hn, cnt_s, if_neg (by rw [hn]; decide)]
      refine ⟨h1, fun p hp hq => ?_⟩
      have hpn : p ≠ n := fun h => by subst h; rw [hn] at hq; cases hq
      exact h2 p (by omega) hq
theorem oof_at {pin zer oop : Nat → Int32} {mo : Nat} : ∀ n p, p < n → (fo (mc_oof pin zer mo) n oop) p = fo (mc_outf (pin p) zer) mo 0 := by
  intro n
  induction n with
  | zero => intro p h; omega
  | succ n ih =>
    intro p h
    rw [fo_s]
    unfold mc_oof
    by_cases hq : p = n
    · subst hq; exact pk_us
    · rw [pk_un hq]
      exact ih p (by omega)
end
section
/-! places: output o at inputs x is bit 16 * o + x -/
theorem zb_lN {a : Nat} (h : a < 2 ^ 64) (j : Nat) : zb (lN a) j = a.testBit j := by
  show (BitVec.ofNat 64 a).getLsbD j = _
  rw [BitVec.getLsbD_ofNat]
  rcases Nat.lt_or_ge j 64 with hj | hj
  · simp [hj]
  · rw [Nat.testBit_lt_two_pow (Nat.lt_of_lt_of_le h (Nat.pow_le_pow_right (n := 2) (by decide) hj))]
    simp
theorem zb_nI {a : Nat} (h : a < 2 ^ 31) (j : Nat) : zb (nI a).toInt64 j = a.testBit j := by
  rw [nI_l h, zb_lN (Nat.lt_trans h (by decide))]
theorem zb_shl (x : Int64) {k : Nat} (hk : k < 64) {j : Nat} (hj : j < 64) : zb (x <<< ((nI k).toInt64 &&& 63)) j = (!decide (j < k) && zb x (j - k)) := by
  unfold zb
  rw [Int64.toBitVec_shiftLeft, zb_c k hk]
  have e : (BitVec.ofNat 64 k).toNat = k := by simp; omega
  rw [BitVec.shiftLeft_eq', e, BitVec.getLsbD_shiftLeft]
  simp [hj]
/-- (v >> o & 1) == 0, of a small number -/
theorem bit_test {v o : Nat} (hv : v < 2 ^ 31) (ho : o < 31) : (nI v >>> (nI o &&& 31)) &&& 1 = 0 ↔ v.testBit o = false := by
  have hs : ∀ o, o < 31 → ((nI o &&& 31).toBitVec.smod 32).toNat = o := by decide +kernel
  rw [pk_shrN hv (nI o &&& 31) o (hs o ho), pk_andN (m := 1) (Nat.lt_of_le_of_lt (Nat.div_le_self _ _) (by omega)) 1 rfl]
  have h2 : v / 2 ^ o % 2 ^ 1 < 2 ^ 31 := Nat.lt_of_lt_of_le (Nat.mod_lt _ (by decide)) (by decide)
  rw [show (0 : Int32) = nI 0 from rfl, nI_eq h2 (by decide)]
  rw [Nat.testBit_eq_decide_div_mod_eq]
  simp only [decide_eq_false_iff_not]
  have : v / 2 ^ o % 2 ^ 1 = v / 2 ^ o % 2 := rfl
  omega
theorem plf_bits {on : Nat → Nat} {one : Nat → Int32} (h : ∀ o, o < 2 → one o = nI (on o) ∧ on o < 65536) {v : Nat} (hv : v < 2 ^ 31) {o x : Nat} (ho : o < 2) (hx : x < 16) : zb (fo (mc_plf one (nI v)) 2 0) (16 * o + x) = (v.testBit o && (on o).testBit x) := by
  obtain ⟨e0, b0⟩ := h 0 (by decide)
  obtain ⟨e1, b1⟩ := h 1 (by decide)
  have t0 := bit_test (v := v) (o := 0) hv (by decide)
  have t1 := bit_test (v := v) (o := 1) hv (by decide)
  have big : ∀ (a j : Nat), a < 65536 → 16 ≤ j → a.testBit j = false := fun a j h1 h2 => Nat.testBit_lt_two_pow (Nat.lt_of_lt_of_le h1 (Nat.pow_le_pow_right (n := 2) (by decide) h2))
  have z0 : ∀ j, j < 64 → zb (fo (mc_plf one (nI v)) 1 0) j = (v.testBit 0 && (on 0).testBit j) := by
    intro j hj
    rw [fo_s, fo_0]
    unfold mc_plf
    cases hb : v.testBit 0 with
    | false => rw [if_pos (t0.mpr hb), zb_0]; rfl
    | true =>
      rw [if_neg (fun q => by rw [t0.mp q] at hb; cases hb), zb_or, zb_0, e0, zb_shl _ (by decide) hj, zb_nI (by omega)]
      simp
  rw [fo_s]
  have key : zb (mc_plf one (nI v) 1 (fo (mc_plf one (nI v)) 1 0)) (16 * o + x) = (zb (fo (mc_plf one (nI v)) 1 0) (16 * o + x) || (v.testBit 1 && (!decide (16 * o + x < 16) && (on 1).testBit (16 * o + x - 16)))) := by
    generalize fo (mc_plf one (nI v)) 1 0 = a
    unfold mc_plf
    cases hb : v.testBit 1 with
    | false => rw [if_pos (t1.mpr hb)]; simp
    | true =>
      rw [if_neg (fun q => by rw [t1.mp q] at hb; cases hb), zb_or, e1, zb_shl _ (by decide) (by omega), zb_nI (by omega)]
      simp
  rw [key, z0 _ (by omega)]
  rcases (show o = 0 ∨ o = 1 by omega) with rfl | rfl
  · have : decide (16 * 0 + x < 16) = true := decide_eq_true (by omega)
    rw [this]; simp
  · have : decide (16 * 1 + x < 16) = false := decide_eq_false (by omega)
    rw [this, big (on 0) _ b0 (by omega), show 16 * 1 + x - 16 = x by omega]; simp
theorem plf_high {on : Nat → Nat} {one : Nat → Int32} (h : ∀ o, o < 2 → one o = nI (on o) ∧ on o < 65536) {v : Nat} (hv : v < 2 ^ 31) {j : Nat} (hj : 32 ≤ j) : zb (fo (mc_plf one (nI v)) 2 0) j = false := by
  rcases Nat.lt_or_ge j 64 with h64 | h64
  · obtain ⟨e0, b0⟩ := h 0 (by decide)
    obtain ⟨e1, b1⟩ := h 1 (by decide)
    have big : ∀ (a j : Nat), a < 65536 → 16 ≤ j → a.testBit j = false := fun a j h1 h2 => Nat.testBit_lt_two_pow (Nat.lt_of_lt_of_le h1 (Nat.pow_le_pow_right (n := 2) (by decide) h2))
    have z0 : zb (fo (mc_plf one (nI v)) 1 0) j = false := by
      rw [fo_s, fo_0]
      unfold mc_plf
      split
      · exact zb_0 j
      · rw [zb_or, zb_0, e0, zb_shl _ (by decide) h64, zb_nI (by omega), big _ _ b0 (by omega)]; simp
    rw [fo_s]
    generalize fo (mc_plf one (nI v)) 1 0 = a at z0 ⊢
    unfold mc_plf
    split
    · exact z0
    · rw [zb_or, z0, e1, zb_shl _ (by decide) h64, zb_nI (by omega), big _ _ b1 (by omega)]; simp
  · exact zb_ge h64
theorem pla_bits {on : Nat → Nat} {one : Nat → Int32} (h : ∀ o, o < 2 → one o = nI (on o) ∧ on o < 65536) {w v : Nat} (hw : w < 65536) (hv : v < 2 ^ 31) {o x : Nat} (ho : o < 2) (hx : x < 16) : zb (mc_pla one (nI w) (nI v)) (16 * o + x) = (w.testBit x && (v.testBit o && (on o).testBit x)) := by
  unfold mc_pla
  rw [zb_and, plf_bits h hv ho hx, zb_or, show (16 : Int32) = nI 16 from rfl, zb_shl _ (by decide) (by omega), zb_nI (by omega), zb_nI (by omega)]
  have big : ∀ (a j : Nat), a < 65536 → 16 ≤ j → a.testBit j = false := fun a j h1 h2 => Nat.testBit_lt_two_pow (Nat.lt_of_lt_of_le h1 (Nat.pow_le_pow_right (n := 2) (by decide) h2))
  rcases (show o = 0 ∨ o = 1 by omega) with rfl | rfl
  · have : decide (16 * 0 + x < 16) = true := decide_eq_true (by omega)
    rw [this, show 16 * 0 + x = x by omega]; simp
  · have : decide (16 * 1 + x < 16) = false := decide_eq_false (by omega)
    rw [this, show 16 * 1 + x - 16 = x by omega, big w (16 * 1 + x) hw (by omega)]; simp
theorem pla_high {on : Nat → Nat} {one : Nat → Int32} (h : ∀ o, o < 2 → one o = nI (on o) ∧ on o < 65536) {w : Int32} {v : Nat} (hv : v < 2 ^ 31) {j : Nat} (hj : 32 ≤ j) : zb (mc_pla one w (nI v)) j = false := by
  unfold mc_pla
  rw [zb_and, plf_high h hv hj, Bool.and_false]
/-- of which outputs a product is, a bit each -/
def outsN (w : Nat) (ze : Nat → Nat) (mo : Nat) : Nat := (if 0 < mo ∧ w &&& ze 0 = 0 then 1 else 0) + (if 1 < mo ∧ w &&& ze 1 = 0 then 2 else 0)
theorem outsN_lt (w : Nat) (ze : Nat → Nat) (mo : Nat) : outsN w ze mo < 4 := by
  unfold outsN
  split <;> split <;> decide
theorem outsN_bit (w : Nat) (ze : Nat → Nat) (mo : Nat) {o : Nat} (ho : o < 2) : (outsN w ze mo).testBit o = (decide (o < mo) && decide (w &&& ze o = 0)) := by
  unfold outsN
  rcases (show o = 0 ∨ o = 1 by omega) with rfl | rfl
  · by_cases h1 : 0 < mo ∧ w &&& ze 0 = 0
    · rw [if_pos h1]
      have e : (decide (0 < mo) && decide (w &&& ze 0 = 0)) = true := by rw [decide_eq_true h1.1, decide_eq_true h1.2]; rfl
      rw [e]; split <;> decide
    · rw [if_neg h1]
      have e : (decide (0 < mo) && decide (w &&& ze 0 = 0)) = false := by
        rw [Bool.eq_false_iff]; intro q; rw [Bool.and_eq_true, decide_eq_true_eq, decide_eq_true_eq] at q; exact h1 q
      rw [e]; split <;> decide
  · by_cases h1 : 1 < mo ∧ w &&& ze 1 = 0
    · rw [if_pos h1]
      have e : (decide (1 < mo) && decide (w &&& ze 1 = 0)) = true := by rw [decide_eq_true h1.1, decide_eq_true h1.2]; rfl
      rw [e]; split <;> decide
    · rw [if_neg h1]
      have e : (decide (1 < mo) && decide (w &&& ze 1 = 0)) = false := by
        rw [Bool.eq_false_iff]; intro q; rw [Bool.and_eq_true, decide_eq_true_eq, decide_eq_true_eq] at q; exact h1 q
      rw [e]; split <;> decide
theorem outf_ok {ze : Nat → Nat} {zer : Nat → Int32} (h : ∀ o, o < 2 → zer o = nI (ze o) ∧ ze o < 65536) {w mo : Nat} (hw : w < 65536) (hm : mo ≤ 2) : fo (mc_outf (nI w) zer) mo 0 = nI (outsN w ze mo) := by
  obtain ⟨e0, b0⟩ := h 0 (by decide)
  obtain ⟨e1, b1⟩ := h 1 (by decide)
  have t : ∀ z, z < 65536 → (nI w &&& nI z = 0 ↔ w &&& z = 0) := fun z hz => by
    have hl : w &&& z ≤ w := Nat.and_le_left
    rw [nI_and, show (0 : Int32) = nI 0 from rfl, nI_eq (by omega) (by decide)]
  have t0 := t _ b0
  have t1 := t _ b1
  unfold outsN
  rcases (show mo = 0 ∨ mo = 1 ∨ mo = 2 by omega) with rfl | rfl | rfl
  · rfl
  · rw [fo_s, fo_0]; unfold mc_outf; rw [e0]
    by_cases h0 : w &&& ze 0 = 0
    · rw [if_pos (t0.mpr h0), if_pos ⟨by decide, h0⟩, if_neg (fun q => absurd q.1 (by decide))]; rfl
    · rw [if_neg (fun q => h0 (t0.mp q)), if_neg (fun q => h0 q.2), if_neg (fun q => absurd q.1 (by decide))]; rfl
  · rw [fo_s, fo_s, fo_0]; unfold mc_outf; rw [e0, e1]
    by_cases h0 : w &&& ze 0 = 0
    · rw [if_pos (t0.mpr h0), if_pos (c := 0 < 2 ∧ w &&& ze 0 = 0) ⟨by decide, h0⟩]
      by_cases h1 : w &&& ze 1 = 0
      · rw [if_pos (t1.mpr h1), if_pos ⟨by decide, h1⟩]; rfl
      · rw [if_neg (fun q => h1 (t1.mp q)), if_neg (fun q => h1 q.2)]; rfl
    · rw [if_neg (fun q => h0 (t0.mp q)), if_neg (c := 0 < 2 ∧ w &&& ze 0 = 0) (fun q => h0 q.2)]
      by_cases h1 : w &&& ze 1 = 0
      · rw [if_pos (t1.mpr h1), if_pos ⟨by decide, h1⟩]; rfl
      · rw [if_neg (fun q => h1 (t1.mp q)), if_neg (fun q => h1 q.2)]; rfl
end
section
/-! at most 54 candidates, of the code's table -/
theorem cnt_or3 {P A B C : Nat → Bool} : ∀ {n : Nat}, (∀ i, i < n → P i = true → A i = true ∨ B i = true ∨ C i = true) → cnt P n ≤ cnt A n + cnt B n + cnt C n := by
  intro n
  induction n with
  | zero => intro _; exact Nat.zero_le _
  | succ n ih =>
    intro h
    have h1 := ih (fun i hi => h i (by omega))
    have h2 := h n (by omega)
    rw [cnt_s, cnt_s, cnt_s, cnt_s]
    by_cases hp : P n = true
    · rw [if_pos hp]
      rcases h2 hp with q | q | q
      · rw [if_pos q]; omega
      · rw [if_pos q]; omega
      · rw [if_pos q]; omega
    · rw [if_neg hp]; omega
theorem w4_lt : ∀ p, p < 81 → W4 p < 65536 := by decide +kernel
theorem w4_wider : ∀ p, p < 81 → ∀ k, k < 4 → W4 p &&& W4 (wop p k) = W4 p := by decide +kernel
theorem w4_sub {p k z : Nat} (hp : p < 81) (hk : k < 4) (h : W4 (wop p k) &&& z = 0) : W4 p &&& z = 0 := by
  rw [← w4_wider p hp k hk, Nat.and_assoc, h]; simp
/-- the candidates by numbers: of some output, and of fewer without any part -/
def candN (ze : Nat → Nat) (mo p : Nat) : Bool := !decide (outsN (W4 p) ze mo = 0) && !exn 4 (fun k => !decide (wop p k = p) && decide (outsN (W4 (wop p k)) ze mo = outsN (W4 p) ze mo))
theorem cand_pr4 {ze : Nat → Nat} {mo p : Nat} (hp : p < 81) (h : candN ze mo p = true) : pr4 (ze 0) p = true ∨ pr4 (ze 1) p = true ∨ pr4 (ze 0 ||| ze 1) p = true := by
  unfold candN at h
  rw [Bool.and_eq_true, Bool.not_eq_true', decide_eq_false_iff_not, Bool.not_eq_true'] at h
  obtain ⟨h0, h1⟩ := h
  have h2 : ∀ k, k < 4 → wop p k ≠ p → outsN (W4 (wop p k)) ze mo ≠ outsN (W4 p) ze mo := fun k hk hw he => by
    have : exn 4 (fun k => !decide (wop p k = p) && decide (outsN (W4 (wop p k)) ze mo = outsN (W4 p) ze mo)) = true := exn_true hk (by rw [decide_eq_false hw, decide_eq_true he]; rfl)
    rw [h1] at this; cases this
  have sub : ∀ k, k < 4 → ∀ o, W4 (wop p k) &&& ze o = 0 → W4 p &&& ze o = 0 := fun k hk o hq => w4_sub hp hk hq
  have fin : ∀ z, W4 p &&& z = 0 → (∀ k, k < 4 → wop p k ≠ p → W4 (wop p k) &&& z ≠ 0) → pr4 z p = true := fun z a b => by
    unfold pr4
    rw [decide_eq_true a, exn_false (fun k hk => by
      rw [Bool.eq_false_iff]
      intro q
      rw [Bool.and_eq_true, Bool.not_eq_true', decide_eq_false_iff_not, decide_eq_true_eq] at q
      exact b k hk q.1 q.2)]
    rfl
  unfold outsN at h0 h2
  by_cases a0 : 0 < mo ∧ W4 p &&& ze 0 = 0
  · by_cases a1 : 1 < mo ∧ W4 p &&& ze 1 = 0
    · refine Or.inr (Or.inr (fin _ ((land_or0 _ _ _).mpr ⟨a0.2, a1.2⟩) (fun k hk hw q => h2 k hk hw ?_)))
      rw [land_or0] at q
      rw [if_pos a0, if_pos a1, if_pos ⟨a0.1, q.1⟩, if_pos ⟨a1.1, q.2⟩]
    · refine Or.inl (fin _ a0.2 (fun k hk hw q => h2 k hk hw ?_))
      rw [if_pos a0, if_neg a1, if_pos ⟨a0.1, q⟩, if_neg (fun z => a1 ⟨z.1, sub k hk 1 z.2⟩)]
  · by_cases a1 : 1 < mo ∧ W4 p &&& ze 1 = 0
    · refine Or.inr (Or.inl (fin _ a1.2 (fun k hk hw q => h2 k hk hw ?_)))
      rw [if_neg a0, if_pos a1, if_neg (fun z => a0 ⟨z.1, sub k hk 0 z.2⟩), if_pos ⟨a1.1, q⟩]
    · rw [if_neg a0, if_neg a1] at h0
      exact absurd rfl h0
theorem cand_54 {ze : Nat → Nat} (h0 : ze 0 < 65536) (h1 : ze 1 < 65536) (mo : Nat) {n : Nat} (hn : n ≤ 81) : cnt (candN ze mo) n ≤ 54 := by
  have a := cnt_or3 (n := n) (P := candN ze mo) (A := pr4 (ze 0)) (B := pr4 (ze 1)) (C := pr4 (ze 0 ||| ze 1)) (fun i hi h => cand_pr4 (by omega) h)
  have b0 := cnt_le (pr4 (ze 0)) hn
  have b1 := cnt_le (pr4 (ze 1)) hn
  have b2 := cnt_le (pr4 (ze 0 ||| ze 1)) hn
  have c0 := pr4_18 h0
  have c1 := pr4_18 h1
  have c2 := pr4_18 (Nat.or_lt_two_pow (n := 16) h0 h1)
  omega
/-- the code's test of a candidate is that of the numbers -/
theorem isc_cand {oop : Nat → Int32} {ze : Nat → Nat} {mo n : Nat} (ho : ∀ p, p < n → oop p = nI (outsN (W4 p) ze mo)) {p : Nat} (hp : p < n) : mc_isc oop p = candN ze mo p := by
  have lt : ∀ q, outsN (W4 q) ze mo < 2 ^ 31 := fun q => Nat.lt_trans (outsN_lt _ _ _) (by decide)
  unfold mc_isc candN
  have e1 : decide (oop p = 0) = decide (outsN (W4 p) ze mo = 0) := by
    rw [ho p hp, show (0 : Int32) = nI 0 from rfl]
    exact decide_eq_decide.mpr (nI_eq (lt p) (by decide))
  have e2 : mc_wideP oop p = fun k => !decide (wop p k = p) && decide (outsN (W4 (wop p k)) ze mo = outsN (W4 p) ze mo) := by
    funext k
    unfold mc_wideP
    have hw : wop p k < n := Nat.lt_of_le_of_lt (wop_le2 p k) hp
    rw [ho _ hw, ho p hp]
    congr 1
    exact decide_eq_decide.mpr (nI_eq (lt _) (lt _))
  rw [e1, e2]
end
section
/-! every place that is 1 is served by some candidate -/
/-- the product of all inputs that is 1 for x alone -/
def pxx (n x : Nat) : Nat := fo (fun k a => a + (if x.testBit k = true then 1 else 2) * 3 ^ k) n 0
theorem pxx_ok : ∀ n, n < 5 → ∀ x, x < 2 ^ n → pxx n x < 3 ^ n ∧ W4 (pxx n x) % 2 ^ 2 ^ n = 2 ^ x := by decide +kernel
theorem w4_mono {p k x : Nat} (hp : p < 81) (hk : k < 4) (h : (W4 p).testBit x = true) : (W4 (wop p k)).testBit x = true := by
  rw [← w4_wider p hp k hk, Nat.testBit_and, Bool.and_eq_true] at h
  exact h.2
theorem land_mod {w z m : Nat} (hz : z < 2 ^ m) : w &&& z = w % 2 ^ m &&& z := by
  apply Nat.eq_of_testBit_eq
  intro i
  rw [Nat.testBit_and, Nat.testBit_and, Nat.testBit_mod_two_pow]
  rcases Nat.lt_or_ge i m with h | h
  · simp [h]
  · rw [Nat.testBit_lt_two_pow (Nat.lt_of_lt_of_le hz (Nat.pow_le_pow_right (n := 2) (by decide) h))]; simp
theorem pow2_land {x z : Nat} (h : z.testBit x = false) : 2 ^ x &&& z = 0 := by
  apply Nat.eq_of_testBit_eq
  intro i
  rw [Nat.testBit_and, Nat.testBit_two_pow, Nat.zero_testBit]
  by_cases hi : x = i
  · subst hi; rw [h]; simp
  · simp [hi]
/-- a least product that is 1 for x and of output o is a candidate -/
theorem cand_ex {ze : Nat → Nat} {mo n o x : Nat} (hn : n < 5) (ho : o < mo) (ho2 : o < 2) (hx : x < 2 ^ n) (hz : ze o < 2 ^ 2 ^ n) (hb : (ze o).testBit x = false) : ∃ p, p < 3 ^ n ∧ candN ze mo p = true ∧ (W4 p).testBit x = true ∧ (outsN (W4 p) ze mo).testBit o = true := by
  have h81 : 3 ^ n ≤ 81 := by
    have : ∀ n, n < 5 → 3 ^ n ≤ 81 := by decide
    exact this n hn
  obtain ⟨a1, a2⟩ := pxx_ok n hn x hx
  have hxn : x < 2 ^ n := hx
  have ex : ∃ p, p < 3 ^ n ∧ (W4 p).testBit x = true ∧ W4 p &&& ze o = 0 := by
    refine ⟨pxx n x, a1, ?_, ?_⟩
    · have h1 : (W4 (pxx n x) % 2 ^ 2 ^ n).testBit x = true := by rw [a2, Nat.testBit_two_pow_self]
      rw [Nat.testBit_mod_two_pow, Bool.and_eq_true] at h1
      exact h1.2
    · rw [land_mod hz, a2]; exact pow2_land hb
  obtain ⟨p, ⟨p1, p2, p3⟩, p4⟩ := pk_least (fun p => p < 3 ^ n ∧ (W4 p).testBit x = true ∧ W4 p &&& ze o = 0) ex
  have hbit : (outsN (W4 p) ze mo).testBit o = true := by
    rw [outsN_bit _ _ _ ho2, decide_eq_true ho, decide_eq_true p3]; rfl
  refine ⟨p, p1, ?_, p2, hbit⟩
  unfold candN
  have h0 : outsN (W4 p) ze mo ≠ 0 := fun h => by rw [h, Nat.zero_testBit] at hbit; cases hbit
  rw [decide_eq_false h0, exn_false (fun k hk => ?_)]
  · rfl
  · rw [Bool.eq_false_iff]
    intro q
    rw [Bool.and_eq_true, Bool.not_eq_true', decide_eq_false_iff_not, decide_eq_true_eq] at q
    have hlt : wop p k < p := Nat.lt_of_le_of_ne (wop_le2 p k) q.1
    apply p4 (wop p k) hlt
    refine ⟨by omega, w4_mono (by omega) hk p2, ?_⟩
    have hb2 := hbit
    rw [← q.2, outsN_bit _ _ _ ho2, Bool.and_eq_true, decide_eq_true_eq, decide_eq_true_eq] at hb2
    exact hb2.2
end
section
/-! rows for walks: loops, compares of small numbers, bit tests, calls that change nothing -/
section MYR
variable {p : Program} {l : Launch} {e : Env} {R : Room} {s : State} {m : MethodId} {args : Array Value} {below : List Frame} {meth : Method} {c : Code} {H : Heap} {locs : List Loc} {cells slots : Nat} {Q : State → Prop}
variable {cc : ByteArray} {pc : Nat} {ls : Array Slot} {rest : List Value}
/-- a loop that counts up to N; the heap stays -/
theorem k_loopR (Inv : Nat → Array Slot → Prop) (N : Nat) (step : ∀ i ls, i ≤ N → Inv i ls → (∀ ls', i < N → Inv (i + 1) ls' → W p l e R s m args below meth c H locs cells slots Q (F0 m pc ls' rest)) → W p l e R s m args below meth c H locs cells slots Q (F0 m pc ls rest)) :
    ∀ i ls, i ≤ N → Inv i ls → W p l e R s m args below meth c H locs cells slots Q (F0 m pc ls rest) := by
  have h : ∀ n i ls, N - i < n → i ≤ N → Inv i ls → W p l e R s m args below meth c H locs cells slots Q (F0 m pc ls rest) := by
    intro n
    induction n with
    | zero => intro i ls h; exact absurd h (Nat.not_lt_zero _)
    | succ n ih => intro i ls h1 h2 h3; exact step i ls h2 h3 (fun ls' hl hI => ih (i + 1) ls' (by omega) (by omega) hI)
  intro i ls h1 h2
  exact h (N - i + 1) i ls (by omega) h1 h2
/-- a loop that counts up to N and writes -/
theorem k_loopH (Inv : Nat → Heap → List Loc → Array Slot → Prop) (N : Nat) (step : ∀ i H locs ls, i ≤ N → Inv i H locs ls → (∀ H' locs' ls', i < N → Inv (i + 1) H' locs' ls' → W p l e R s m args below meth c H' locs' cells slots Q (F0 m pc ls' rest)) → W p l e R s m args below meth c H locs cells slots Q (F0 m pc ls rest)) :
    ∀ i H locs ls, i ≤ N → Inv i H locs ls → W p l e R s m args below meth c H locs cells slots Q (F0 m pc ls rest) := by
  have h : ∀ n i H locs ls, N - i < n → i ≤ N → Inv i H locs ls → W p l e R s m args below meth c H locs cells slots Q (F0 m pc ls rest) := by
    intro n
    induction n with
    | zero => intro i H locs ls h; exact absurd h (Nat.not_lt_zero _)
    | succ n ih => intro i H locs ls h1 h2 h3; exact step i H locs ls h2 h3 (fun H' locs' ls' hl hI => ih (i + 1) H' locs' ls' (by omega) (by omega) hI)
  intro i H locs ls h1 h2
  exact h (N - i + 1) i H locs ls (by omega) h1 h2
theorem k_inc (i : Nat) : nI i + Int32.ofInt 1 = nI (i + 1) := nI_1 i
theorem k_ge {x y : Int32} {a b : Nat} {off : Int} {tgt : Nat} (hexec : p.tables.exec = Jvm.exec) (hb : c.code = cc) (ex : x = nI a) (ey : y = nI b) (ha : a < 2 ^ 31) (hb2 : b < 2 ^ 31) (hdg : decode cc pc = .ok (.if_icmp .ge off, 3)) (ht : (pc : Int) + off = (tgt : Int))
    (kt : b ≤ a → W p l e R s m args below meth c H locs cells slots Q (F0 m tgt ls rest)) (kf : a < b → W p l e R s m args below meth c H locs cells slots Q (F0 m (pc + 3) ls rest)) : W p l e R s m args below meth c H locs cells slots Q (F0 m pc ls (.int y :: .int x :: rest)) := by
  subst ex; subst ey
  exact lv_icmp_ge hexec hb hdg ht (fun h => kt ((nI_leI hb2 ha).mp h)) (fun h => kf (Nat.lt_of_not_le (fun q => h ((nI_leI hb2 ha).mpr q))))
theorem k_lt {x y : Int32} {a b : Nat} {off : Int} {tgt : Nat} (hexec : p.tables.exec = Jvm.exec) (hb : c.code = cc) (ex : x = nI a) (ey : y = nI b) (ha : a < 2 ^ 31) (hb2 : b < 2 ^ 31) (hdg : decode cc pc = .ok (.if_icmp .lt off, 3)) (ht : (pc : Int) + off = (tgt : Int))
    (kt : a < b → W p l e R s m args below meth c H locs cells slots Q (F0 m tgt ls rest)) (kf : b ≤ a → W p l e R s m args below meth c H locs cells slots Q (F0 m (pc + 3) ls rest)) : W p l e R s m args below meth c H locs cells slots Q (F0 m pc ls (.int y :: .int x :: rest)) := by
  subst ex; subst ey
  exact lv_icmp_lt hexec hb hdg ht (fun h => kt ((nI_ltI ha hb2).mp h)) (fun h => kf (Nat.le_of_not_lt (fun q => h ((nI_ltI ha hb2).mpr q))))
theorem k_gt {x y : Int32} {a b : Nat} {off : Int} {tgt : Nat} (hexec : p.tables.exec = Jvm.exec) (hb : c.code = cc) (ex : x = nI a) (ey : y = nI b) (ha : a < 2 ^ 31) (hb2 : b < 2 ^ 31) (hdg : decode cc pc = .ok (.if_icmp .gt off, 3)) (ht : (pc : Int) + off = (tgt : Int))
    (kt : b < a → W p l e R s m args below meth c H locs cells slots Q (F0 m tgt ls rest)) (kf : a ≤ b → W p l e R s m args below meth c H locs cells slots Q (F0 m (pc + 3) ls rest)) : W p l e R s m args below meth c H locs cells slots Q (F0 m pc ls (.int y :: .int x :: rest)) := by
  subst ex; subst ey
  exact lv_icmp_gt hexec hb hdg ht (fun h => kt ((nI_ltI hb2 ha).mp h)) (fun h => kf (Nat.le_of_not_lt (fun q => h ((nI_ltI hb2 ha).mpr q))))
theorem k_le {x y : Int32} {a b : Nat} {off : Int} {tgt : Nat} (hexec : p.tables.exec = Jvm.exec) (hb : c.code = cc) (ex : x = nI a) (ey : y = nI b) (ha : a < 2 ^ 31) (hb2 : b < 2 ^ 31) (hdg : decode cc pc = .ok (.if_icmp .le off, 3)) (ht : (pc : Int) + off = (tgt : Int))
    (kt : a ≤ b → W p l e R s m args below meth c H locs cells slots Q (F0 m tgt ls rest)) (kf : b < a → W p l e R s m args below meth c H locs cells slots Q (F0 m (pc + 3) ls rest)) : W p l e R s m args below meth c H locs cells slots Q (F0 m pc ls (.int y :: .int x :: rest)) := by
  subst ex; subst ey
  exact lv_icmp_le hexec hb hdg ht (fun h => kt ((nI_leI ha hb2).mp h)) (fun h => kf (Nat.lt_of_not_le (fun q => h ((nI_leI ha hb2).mpr q))))
theorem k_eq {x y : Int32} {a b : Nat} {off : Int} {tgt : Nat} (hexec : p.tables.exec = Jvm.exec) (hb : c.code = cc) (ex : x = nI a) (ey : y = nI b) (ha : a < 2 ^ 31) (hb2 : b < 2 ^ 31) (hdg : decode cc pc = .ok (.if_icmp .eq off, 3)) (ht : (pc : Int) + off = (tgt : Int))
    (kt : a = b → W p l e R s m args below meth c H locs cells slots Q (F0 m tgt ls rest)) (kf : ¬ a = b → W p l e R s m args below meth c H locs cells slots Q (F0 m (pc + 3) ls rest)) : W p l e R s m args below meth c H locs cells slots Q (F0 m pc ls (.int y :: .int x :: rest)) := by
  subst ex; subst ey
  exact lv_icmp_eq hexec hb hdg ht (fun h => kt ((nI_eq ha hb2).mp h)) (fun h => kf (fun q => h ((nI_eq ha hb2).mpr q)))
theorem k_ne {x y : Int32} {a b : Nat} {off : Int} {tgt : Nat} (hexec : p.tables.exec = Jvm.exec) (hb : c.code = cc) (ex : x = nI a) (ey : y = nI b) (ha : a < 2 ^ 31) (hb2 : b < 2 ^ 31) (hdg : decode cc pc = .ok (.if_icmp .ne off, 3)) (ht : (pc : Int) + off = (tgt : Int))
    (kt : ¬ a = b → W p l e R s m args below meth c H locs cells slots Q (F0 m tgt ls rest)) (kf : a = b → W p l e R s m args below meth c H locs cells slots Q (F0 m (pc + 3) ls rest)) : W p l e R s m args below meth c H locs cells slots Q (F0 m pc ls (.int y :: .int x :: rest)) := by
  subst ex; subst ey
  exact lv_icmp_ne hexec hb hdg ht (fun h => kt (fun q => h ((nI_eq ha hb2).mpr q))) (fun h => kf ((nI_eq ha hb2).mp h))
/-- lcmp; ifeq -/
theorem k_leq {x y : Int64} {off : Int} {tgt : Nat} (hexec : p.tables.exec = Jvm.exec) (hb : c.code = cc) (d0 : decode cc pc = .ok (.lcmp, 1)) (d1 : decode cc (pc + 1) = .ok (.ifCond .eq off, 3)) (ht : ((pc + 1 : Nat) : Int) + off = (tgt : Int))
    (kt : x = y → W p l e R s m args below meth c H locs cells slots Q (F0 m tgt ls rest)) (kf : ¬ x = y → W p l e R s m args below meth c H locs cells slots Q (F0 m (pc + 1 + 3) ls rest)) : W p l e R s m args below meth c H locs cells slots Q (F0 m pc ls (.long y :: .long x :: rest)) :=
  W.lcmp hexec hb d0 (lv_if_eq hexec hb d1 ht (fun h => kt ((lg_cmp_eq x y).mp h)) (fun h => kf (fun q => h ((lg_cmp_eq x y).mpr q))))
/-- lcmp; ifne -/
theorem k_lne {x y : Int64} {off : Int} {tgt : Nat} (hexec : p.tables.exec = Jvm.exec) (hb : c.code = cc) (d0 : decode cc pc = .ok (.lcmp, 1)) (d1 : decode cc (pc + 1) = .ok (.ifCond .ne off, 3)) (ht : ((pc + 1 : Nat) : Int) + off = (tgt : Int))
    (kt : ¬ x = y → W p l e R s m args below meth c H locs cells slots Q (F0 m tgt ls rest)) (kf : x = y → W p l e R s m args below meth c H locs cells slots Q (F0 m (pc + 1 + 3) ls rest)) : W p l e R s m args below meth c H locs cells slots Q (F0 m pc ls (.long y :: .long x :: rest)) :=
  W.lcmp hexec hb d0 (lv_if_ne hexec hb d1 ht (fun h => kt (fun q => h ((lg_cmp_eq x y).mpr q))) (fun h => kf ((lg_cmp_eq x y).mp h)))
/-- lshr; lconst_1; land; lconst_0; lcmp; ifeq -/
theorem k_bit {x : Int64} {y : Int32} {i : Nat} {off : Int} {tgt : Nat} (hexec : p.tables.exec = Jvm.exec) (hb : c.code = cc) (ey : y = nI i) (hi : i < 64) (d0 : decode cc pc = .ok (.lshr, 1)) (d1 : decode cc (pc + 1) = .ok (.lconst 1, 1)) (d2 : decode cc (pc + 2) = .ok (.land, 1)) (d3 : decode cc (pc + 3) = .ok (.lconst 0, 1)) (d4 : decode cc (pc + 4) = .ok (.lcmp, 1)) (d5 : decode cc (pc + 5) = .ok (.ifCond .eq off, 3)) (ht : ((pc + 5 : Nat) : Int) + off = (tgt : Int))
    (kt : zb x i = false → W p l e R s m args below meth c H locs cells slots Q (F0 m tgt ls rest)) (kf : zb x i = true → W p l e R s m args below meth c H locs cells slots Q (F0 m (pc + 5 + 3) ls rest)) : W p l e R s m args below meth c H locs cells slots Q (F0 m pc ls (.int y :: .long x :: rest)) := by
  subst ey
  refine lv_lshr hexec hb d0 rfl ?_
  refine lv_lconst (v := 1) hexec hb d1 rfl ?_
  refine lv_land hexec hb d2 ?_
  refine lv_lconst (v := 0) hexec hb d3 rfl ?_
  refine k_leq hexec hb d4 d5 ht (fun h => kt ((zb_test x hi).mp h)) (fun h => kf ?_)
  cases hz : zb x i with
  | true => rfl
  | false => exact absurd ((zb_test x hi).mpr hz) h
theorem k_iadd {x y : Int32} {a b : Nat} (hexec : p.tables.exec = Jvm.exec) (hb : c.code = cc) (ex : x = nI a) (ey : y = nI b) (hdg : decode cc pc = .ok (.iadd, 1)) (k : W p l e R s m args below meth c H locs cells slots Q (F0 m (pc + 1) ls (.int (nI (a + b)) :: rest))) : W p l e R s m args below meth c H locs cells slots Q (F0 m pc ls (.int y :: .int x :: rest)) := by
  subst ex; subst ey
  refine lv_iadd hexec hb hdg ?_
  rw [nI_add]; exact k
theorem k_imul {x y : Int32} {a b : Nat} (hexec : p.tables.exec = Jvm.exec) (hb : c.code = cc) (ex : x = nI a) (ey : y = nI b) (hdg : decode cc pc = .ok (.imul, 1)) (k : W p l e R s m args below meth c H locs cells slots Q (F0 m (pc + 1) ls (.int (nI (a * b)) :: rest))) : W p l e R s m args below meth c H locs cells slots Q (F0 m pc ls (.int y :: .int x :: rest)) := by
  subst ex; subst ey
  refine lv_imul hexec hb hdg ?_
  rw [pk_mul]; exact k
theorem k_isub {x y : Int32} {a b : Nat} (hexec : p.tables.exec = Jvm.exec) (hb : c.code = cc) (ex : x = nI a) (ey : y = nI b) (hab : b ≤ a) (hdg : decode cc pc = .ok (.isub, 1)) (k : W p l e R s m args below meth c H locs cells slots Q (F0 m (pc + 1) ls (.int (nI (a - b)) :: rest))) : W p l e R s m args below meth c H locs cells slots Q (F0 m pc ls (.int y :: .int x :: rest)) := by
  subst ex; subst ey
  refine lv_isub hexec hb hdg ?_
  rw [pk_sub hab]; exact k
theorem k_idiv {x y : Int32} {a b : Nat} (hexec : p.tables.exec = Jvm.exec) (hb : c.code = cc) (ex : x = nI a) (ey : y = nI b) (ha : a < 2 ^ 31) (h0 : 0 < b) (hb2 : b < 2 ^ 31) (hdg : decode cc pc = .ok (.idiv, 1)) (k : W p l e R s m args below meth c H locs cells slots Q (F0 m (pc + 1) ls (.int (nI (a / b)) :: rest))) : W p l e R s m args below meth c H locs cells slots Q (F0 m pc ls (.int y :: .int x :: rest)) := by
  subst ex; subst ey
  refine lv_idiv hexec hb hdg (nI_ne0 h0 hb2) ?_
  rw [pk_div ha h0 hb2]; exact k
theorem k_irem {x y : Int32} {a b : Nat} (hexec : p.tables.exec = Jvm.exec) (hb : c.code = cc) (ex : x = nI a) (ey : y = nI b) (ha : a < 2 ^ 31) (h0 : 0 < b) (hb2 : b < 2 ^ 31) (hdg : decode cc pc = .ok (.irem, 1)) (k : W p l e R s m args below meth c H locs cells slots Q (F0 m (pc + 1) ls (.int (nI (a % b)) :: rest))) : W p l e R s m args below meth c H locs cells slots Q (F0 m pc ls (.int y :: .int x :: rest)) := by
  subst ex; subst ey
  refine lv_irem hexec hb hdg (nI_ne0 h0 hb2) ?_
  rw [pk_rem ha h0 hb2]; exact k
/-- an element of a table that stands from the start -/
theorem k_ti {A : Nat → Prop} {t N : Nat} {f : Nat → Value} (hexec : p.tables.exec = Jvm.exec) (hb : c.code = cc) (hT : va_T .int t N f A s s.heap) (hS : va_S A s.heap H locs) {x : Int32} {k : Nat} (ex : x = nI k) (hk : k < N) (hN : N < 2 ^ 31) {v : Value} (hv : f k = v) (hdg : decode cc pc = .ok (.iaload, 1))
    (kk : W p l e R s m args below meth c H locs cells slots Q (F0 m (pc + 1) ls (v :: rest))) : W p l e R s m args below meth c H locs cells slots Q (F0 m pc ls (.int x :: .ref t :: rest)) := by
  subst ex
  exact va_ti hexec hb hT hS (vp_in_nI hk hN) (by rw [nI_clamp (by omega)]; exact hv) hdg kk
/-- ifeq, ifne of a boolean -/
theorem k_beq {b : Bool} {off : Int} {tgt : Nat} (hexec : p.tables.exec = Jvm.exec) (hb : c.code = cc) (hdg : decode cc pc = .ok (.ifCond .eq off, 3)) (ht : (pc : Int) + off = (tgt : Int))
    (kt : b = false → W p l e R s m args below meth c H locs cells slots Q (F0 m tgt ls rest)) (kf : b = true → W p l e R s m args below meth c H locs cells slots Q (F0 m (pc + 3) ls rest)) : W p l e R s m args below meth c H locs cells slots Q (F0 m pc ls (.int (if b = true then 1 else 0) :: rest)) := by
  cases b with
  | true => exact lv_if_eq hexec hb hdg ht (fun h => absurd h (by decide)) (fun _ => kf rfl)
  | false => exact lv_if_eq hexec hb hdg ht (fun _ => kt rfl) (fun h => absurd rfl h)
theorem k_bne {b : Bool} {off : Int} {tgt : Nat} (hexec : p.tables.exec = Jvm.exec) (hb : c.code = cc) (hdg : decode cc pc = .ok (.ifCond .ne off, 3)) (ht : (pc : Int) + off = (tgt : Int))
    (kt : b = true → W p l e R s m args below meth c H locs cells slots Q (F0 m tgt ls rest)) (kf : b = false → W p l e R s m args below meth c H locs cells slots Q (F0 m (pc + 3) ls rest)) : W p l e R s m args below meth c H locs cells slots Q (F0 m pc ls (.int (if b = true then 1 else 0) :: rest)) := by
  cases b with
  | true => exact lv_if_ne hexec hb hdg ht (fun _ => kt rfl) (fun h => absurd h (by decide))
  | false => exact lv_if_ne hexec hb hdg ht (fun h => absurd rfl h) (fun _ => kf rfl)
/-- the element k of an array of ints -/
theorem k_iald {D : va_G} {cl : List vw_C} {a : Nat} {tys : List (ClassId × FieldType)} {ws : va_W} (hexec : p.tables.exec = Jvm.exec) (hb : c.code = cc) (hK : va_K D cl tys s) (hP : va_P D cl ws H) (q0 t0 : Nat) {cA : ClassId} {n : Nat} {f : Nat → Int32} (ha : ws[q0]? = some (a, .inl (cA, n, .inl f))) (ht : tys[t0]? = some (cA, .int)) {x : Int32} {k : Nat} (ex : x = nI k) (hk : k < n) (hn : n < 2 ^ 31) (hdg : decode cc pc = .ok (.iaload, 1))
    (kk : W p l e R s m args below meth c H locs cells slots Q (F0 m (pc + 1) ls (.int (f k) :: rest))) : W p l e R s m args below meth c H locs cells slots Q (F0 m pc ls (.int x :: .ref a :: rest)) := by
  subst ex
  refine va_iald hexec hb hK hP q0 t0 ha ht (vp_in_nI hk hn) hdg ?_
  rw [nI_clamp (by omega)]
  exact kk
theorem k_lald {D : va_G} {cl : List vw_C} {a : Nat} {tys : List (ClassId × FieldType)} {ws : va_W} (hexec : p.tables.exec = Jvm.exec) (hb : c.code = cc) (hK : va_K D cl tys s) (hP : va_P D cl ws H) (q0 t0 : Nat) {cA : ClassId} {n : Nat} {f : Nat → Int64} (ha : ws[q0]? = some (a, .inl (cA, n, .inr (.inl f)))) (ht : tys[t0]? = some (cA, .long)) {x : Int32} {k : Nat} (ex : x = nI k) (hk : k < n) (hn : n < 2 ^ 31) (hdg : decode cc pc = .ok (.laload, 1))
    (kk : W p l e R s m args below meth c H locs cells slots Q (F0 m (pc + 1) ls (.long (f k) :: rest))) : W p l e R s m args below meth c H locs cells slots Q (F0 m pc ls (.int x :: .ref a :: rest)) := by
  subst ex
  refine va_lald hexec hb hK hP q0 t0 ha ht (vp_in_nI hk hn) hdg ?_
  rw [nI_clamp (by omega)]
  exact kk
theorem k_iast {D : va_G} {cl : List vw_C} {a : Nat} {tys : List (ClassId × FieldType)} {ws : va_W} {A : Nat → Prop} {H0 : Heap} (hexec : p.tables.exec = Jvm.exec) (hb : c.code = cc) (hK : va_K D cl tys s) (hP : va_P D cl ws H) (hD : va_D A ws) (hS : va_S A H0 H locs) (q0 t0 : Nat) {cA : ClassId} {n : Nat} {f : Nat → Int32} (ha : ws[q0]? = some (a, .inl (cA, n, .inl f))) (ht : tys[t0]? = some (cA, .int)) {y x : Int32} {k : Nat} (ex : y = nI k) (hk : k < n) (hn : n < 2 ^ 31) (hdg : decode cc pc = .ok (.iastore, 1))
    (kk : ∀ (H1 : Heap) (locs1 : List Loc), va_P D cl (ws.set q0 (a, .inl (cA, n, .inl (upd f k x)))) H1 → va_D A (ws.set q0 (a, .inl (cA, n, .inl (upd f k x)))) → va_S A H0 H1 locs1 → W p l e R s m args below meth c H1 locs1 cells slots Q (F0 m (pc + 1) ls rest)) : W p l e R s m args below meth c H locs cells slots Q (F0 m pc ls (.int x :: .int y :: .ref a :: rest)) := by
  subst ex
  refine va_iast hexec hb hK hP hD hS q0 t0 ha ht (vp_in_nI hk hn) hdg ?_
  rw [nI_clamp (by omega)]
  exact kk
theorem k_last {D : va_G} {cl : List vw_C} {a : Nat} {tys : List (ClassId × FieldType)} {ws : va_W} {A : Nat → Prop} {H0 : Heap} (hexec : p.tables.exec = Jvm.exec) (hb : c.code = cc) (hK : va_K D cl tys s) (hP : va_P D cl ws H) (hD : va_D A ws) (hS : va_S A H0 H locs) (q0 t0 : Nat) {cA : ClassId} {n : Nat} {f : Nat → Int64} (ha : ws[q0]? = some (a, .inl (cA, n, .inr (.inl f)))) (ht : tys[t0]? = some (cA, .long)) {y : Int32} {x : Int64} {k : Nat} (ex : y = nI k) (hk : k < n) (hn : n < 2 ^ 31) (hdg : decode cc pc = .ok (.lastore, 1))
    (kk : ∀ (H1 : Heap) (locs1 : List Loc), va_P D cl (ws.set q0 (a, .inl (cA, n, .inr (.inl (vp_updL f k x))))) H1 → va_D A (ws.set q0 (a, .inl (cA, n, .inr (.inl (vp_updL f k x))))) → va_S A H0 H1 locs1 → W p l e R s m args below meth c H1 locs1 cells slots Q (F0 m (pc + 1) ls rest)) : W p l e R s m args below meth c H locs cells slots Q (F0 m pc ls (.long x :: .int y :: .ref a :: rest)) := by
  subst ex
  refine va_last hexec hb hK hP hD hS q0 t0 ha ht (vp_in_nI hk hn) hdg ?_
  rw [nI_clamp (by omega)]
  exact kk
end MYR
/-- the start of a method that changes nothing: its arguments, the cells that it reads -/
def kr_P (av : List Value) (D : va_G) (cl : List vw_C) (ws : va_W) (tys : List (ClassId × FieldType)) : Array Value → State → Prop := va_Pc av (fun U => va_P D cl ws U.heap ∧ va_K D cl tys U)
theorem kr_blind {av : List Value} {D : va_G} {cl : List vw_C} {ws : va_W} {tys : List (ClassId × FieldType)} : FrameBlind (kr_P av D cl ws tys) := fun a U g mk q => by
  obtain ⟨q0, q1, q2⟩ := q
  exact ⟨q0, q1, va_K.moved (u := U) (U := U.calling g mk a) (Vm.Alike.refl U.vm) q2⟩
theorem kr_V {s : State} {H : Heap} {D : va_G} {cl : List vw_C} {b ci q0 : Nat} {q : vw_C} {fs : List Value} {ws : va_W} {tys : List (ClassId × FieldType)} {As : List Value} (hK : va_K D cl tys s) (hP : va_P D cl ws H) (hc : cl[ci]? = some q) (he : ws[q0]? = some (b, .inr (ci, fs))) : PreV s H q.1 b (kr_P (.ref b :: As) D cl ws tys) As :=
  ⟨kr_blind, va_recv hK hP hc he, fun U hU hW => ⟨rfl, by rw [hU]; exact hP, va_K.moved hW.alike hK⟩⟩
theorem kr_S {s : State} {H : Heap} {D : va_G} {cl : List vw_C} {ws : va_W} {tys : List (ClassId × FieldType)} {As : List Value} (hK : va_K D cl tys s) (hP : va_P D cl ws H) : PreS s H (kr_P As D cl ws tys) As :=
  ⟨kr_blind, fun U hU hW => ⟨rfl, by rw [hU]; exact hP, va_K.moved hW.alike hK⟩⟩
/-- the start of a method that writes -/
def kw_P (av : List Value) (sz : Nat) (D : va_G) (cl : List vw_C) (ws : va_W) (tys : List (ClassId × FieldType)) : Array Value → State → Prop := va_Pc av (fun U => U.heap.size = sz ∧ va_P D cl ws U.heap ∧ va_K D cl tys U ∧ va_D (fun _ => True) ws)
theorem kw_blind {av : List Value} {sz : Nat} {D : va_G} {cl : List vw_C} {ws : va_W} {tys : List (ClassId × FieldType)} : FrameBlind (kw_P av sz D cl ws tys) := fun a U g mk q => by
  obtain ⟨q0, q1, q2, q3, q4⟩ := q
  exact ⟨q0, q1, q2, va_K.moved (u := U) (U := U.calling g mk a) (Vm.Alike.refl U.vm) q3, q4⟩
theorem kw_V {s : State} {H : Heap} {D : va_G} {cl : List vw_C} {b ci q0 : Nat} {q : vw_C} {fs : List Value} {ws : va_W} {tys : List (ClassId × FieldType)} {As : List Value} {A : Nat → Prop} (hK : va_K D cl tys s) (hP : va_P D cl ws H) (hD : va_D A ws) (hc : cl[ci]? = some q) (he : ws[q0]? = some (b, .inr (ci, fs))) : PreV s H q.1 b (kw_P (.ref b :: As) H.size D cl ws tys) As :=
  ⟨kw_blind, va_recv hK hP hc he, fun U hU hW => ⟨rfl, by rw [hU], by rw [hU]; exact hP, va_K.moved hW.alike hK, hD.weaken (fun _ _ _ _ => trivial)⟩⟩
theorem kw_S {s : State} {H : Heap} {D : va_G} {cl : List vw_C} {ws : va_W} {tys : List (ClassId × FieldType)} {As : List Value} {A : Nat → Prop} (hK : va_K D cl tys s) (hP : va_P D cl ws H) (hD : va_D A ws) : PreS s H (kw_P As H.size D cl ws tys) As :=
  ⟨kw_blind, fun U hU hW => ⟨rfl, by rw [hU], by rw [hU]; exact hP, va_K.moved hW.alike hK, hD.weaken (fun _ _ _ _ => trivial)⟩⟩
/-- the world behind a method that writes -/
def kw_B {S : Type} (D : va_G) (cl : List vw_C) (tys : List (ClassId × FieldType)) (A : Nat → Prop) (w : S → va_W) (u : S) (t : State) : Prop := va_P D cl (w u) t.heap ∧ va_K D cl tys t ∧ va_D A (w u)
end
section
/-! calls of methods that write; ends of methods -/
/-- the end of a method that writes and answers nothing: the cells as they are then -/
def kw_Qv (D : va_G) (cl : List vw_C) (tys : List (ClassId × FieldType)) (A : Nat → Prop) (wf : va_W) : Array Value → State → Outcome → State → Prop :=
  va_Qv (fun _ : Unit => True) (fun _ t => va_P D cl wf t.heap ∧ va_K D cl tys t ∧ va_D A wf) A
/-- .. and answers an int -/
def kw_Qi (D : va_G) (cl : List vw_C) (tys : List (ClassId × FieldType)) (A : Nat → Prop) (wf : va_W) (v : Int32) : Array Value → State → Outcome → State → Prop :=
  va_Qi (fun (r : Int32) (_ : Unit) => r = v) (fun _ t => va_P D cl wf t.heap ∧ va_K D cl tys t ∧ va_D A wf) A
section MYC
variable {p : Program} {l : Launch} {e : Env} {R : Room} {s : State} {m : MethodId} {args : Array Value} {below : List Frame} {meth : Method} {c : Code} {H : Heap} {locs : List Loc} {cells slots : Nat} {Q : State → Prop}
variable {y : MethodName} {bytes cc : ByteArray} {maxL nL mc ms n index : Nat} {ret : Option FieldType} {ws : List Cond} {rm : Room} {Pc : Array Value → State → Prop} {Ts : List Cond} {own C : String} {As rest st0 : List Value} {pc : Nat} {ls : Array Slot}
variable {D : va_G} {cl : List vw_C} {A0 : Nat → Prop} {H0 : Heap} {ww wc wr wf : va_W} {tysc : List (ClassId × FieldType)}
theorem kw_callv {a : Array Value} (hr : va_Run p l e R s m args below meth c H locs cells slots mc ms (F0 m pc ls st0) rest (kw_Qv D cl tysc (va_A wc H.size) wf a) (va_A wc H.size)) (hP : va_P D cl ww H) (hD : va_D A0 ww) (hS : va_S A0 H0 H locs) (hA : ∀ q, H0.size ≤ q → A0 q) (isC isR : List Nat) (hC : isC.map (fun i => ww[i]?) = wc.map some) (hR : isR.map (fun i => ww[i]?) = wr.map some) (hn : va_nd isR = true) (hdis : ∀ i ∈ isR, i ∉ isC)
    (kk : ∀ (H1 : Heap) (locs1 : List Loc), va_P D cl (wr ++ wf) H1 → va_D A0 (wr ++ wf) → va_S A0 H0 H1 locs1 → W p l e R s m args below meth c H1 locs1 (cells + mc) (slots + ms) Q (F0 m (pc + 3) ls rest)) : W p l e R s m args below meth c H locs cells slots Q (F0 m pc ls st0) := by
  have hF := va_free hD hS hA isC hC
  refine va_callv hr hS (fun q _ h => hF q h) hF (fun u t H1 locs1 ht hvm hw hB hz1 hk1 hS1 => ?_)
  obtain ⟨hP1, -, hD1⟩ := hB
  rw [ht] at hP1
  obtain ⟨hP2, hD2⟩ := va_join hP hD isC isR hC hR hn hdis hk1 hF hP1 hD1
  exact kk H1 locs1 hP2 hD2 hS1
theorem kw_calli {a : Array Value} {v : Int32} (hr : va_Run p l e R s m args below meth c H locs cells slots mc ms (F0 m pc ls st0) rest (kw_Qi D cl tysc (va_A wc H.size) wf v a) (va_A wc H.size)) (hP : va_P D cl ww H) (hD : va_D A0 ww) (hS : va_S A0 H0 H locs) (hA : ∀ q, H0.size ≤ q → A0 q) (isC isR : List Nat) (hC : isC.map (fun i => ww[i]?) = wc.map some) (hR : isR.map (fun i => ww[i]?) = wr.map some) (hn : va_nd isR = true) (hdis : ∀ i ∈ isR, i ∉ isC)
    (kk : ∀ (H1 : Heap) (locs1 : List Loc), va_P D cl (wr ++ wf) H1 → va_D A0 (wr ++ wf) → va_S A0 H0 H1 locs1 → W p l e R s m args below meth c H1 locs1 (cells + mc) (slots + ms) Q (F0 m (pc + 3) ls (.int v :: rest))) : W p l e R s m args below meth c H locs cells slots Q (F0 m pc ls st0) := by
  have hF := va_free hD hS hA isC hC
  refine va_calli hr hS (fun q _ h => hF q h) hF (fun r u t H1 locs1 ht hvm hw hB hz1 hk1 hS1 => ?_)
  obtain ⟨hP1, -, hD1⟩ := hB
  rw [ht] at hP1
  obtain ⟨hP2, hD2⟩ := va_join hP hD isC isR hC hR hn hdis hk1 hF hP1 hD1
  subst hw
  exact kk H1 locs1 hP2 hD2 hS1
/-- the end of a method that writes, of a world ww whose cells at places 'is' are those of the contract -/
theorem kw_endv {tys : List (ClassId × FieldType)} {ww wf : va_W} {A : Nat → Prop} {t : State} (hP : va_P D cl ww H) (hD : va_D A ww) (hK : va_K D cl tys s) (hS : va_S A s.heap H locs) (is : List Nat) (h1 : is.filterMap (fun i => ww[i]?) = wf) (h2 : va_nd is = true) (h3 : is.map (fun i => ww[i]?) = wf.map some) (ht : t.heap = H) (hW : s.vm.Alike t.vm) : kw_Qv D cl tys A wf args s (.returned none) t :=
  ⟨⟨(), rfl, trivial, by rw [ht]; exact hP.sub is h1, va_K.moved hW hK, hD.sub is h2 h3⟩, hS.F ht⟩
theorem kw_endi {tys : List (ClassId × FieldType)} {ww wf : va_W} {A : Nat → Prop} {t : State} {v : Int32} (hP : va_P D cl ww H) (hD : va_D A ww) (hK : va_K D cl tys s) (hS : va_S A s.heap H locs) (is : List Nat) (h1 : is.filterMap (fun i => ww[i]?) = wf) (h2 : va_nd is = true) (h3 : is.map (fun i => ww[i]?) = wf.map some) (ht : t.heap = H) (hW : s.vm.Alike t.vm) : kw_Qi D cl tys A wf v args s (.returned (some (.int v))) t :=
  ⟨⟨v, (), rfl, rfl, by rw [ht]; exact hP.sub is h1, va_K.moved hW hK, hD.sub is h2 h3⟩, hS.F ht⟩
end MYC
end
section
/-! methods that read the class's two tables -/
def R_prod : String := "CoverHouse$Products"
/-- the tables POWERS (at tP) and INPUT_SETS (at tI) -/
def st_X (tP tI : Nat) (A : Nat → Prop) (U : State) (H : Heap) : Prop :=
  (va_Z R_prod "POWERS" "[I" (.ref tP) A U H ∧ va_T .int tP 5 (fun j => .int (nI (tpow j))) A U H) ∧ va_Z R_prod "INPUT_SETS" "[I" (.ref tI) A U H ∧ va_T .int tI 4 (fun j => .int (nI (iset j))) A U H
theorem st_X.moved {tP tI : Nat} {A : Nat → Prop} {u U : State} {H : Heap} (hvm : u.vm.Alike U.vm) (h : st_X tP tI A u H) : st_X tP tI A U H := ⟨⟨h.1.1.moved hvm, h.1.2.moved hvm⟩, h.2.1.moved hvm, h.2.2.moved hvm⟩
theorem st_X.kept {tP tI : Nat} {A : Nat → Prop} {U : State} {H H1 : Heap} (h : st_X tP tI A U H) (hq : ∀ a : Nat, a < H.size → ¬ A a → H1[a]? = H[a]?) : st_X tP tI A U H1 := ⟨⟨h.1.1.kept hq, h.1.2.kept hq⟩, h.2.1.kept hq, h.2.2.kept hq⟩
theorem st_X.narrow {tP tI : Nat} {A B : Nat → Prop} {U : State} {H : Heap} (h : st_X tP tI A U H) (hAB : ∀ q, B q → A q) : st_X tP tI B U H := ⟨⟨h.1.1.narrow hAB, h.1.2.narrow hAB⟩, h.2.1.narrow hAB, h.2.2.narrow hAB⟩
def kr_PX (tP tI : Nat) (av : List Value) (D : va_G) (cl : List vw_C) (ws : va_W) (tys : List (ClassId × FieldType)) : Array Value → State → Prop := fun a U => kr_P av D cl ws tys a U ∧ st_X tP tI (fun _ => False) U U.heap
theorem kr_blindX {tP tI : Nat} {av : List Value} {D : va_G} {cl : List vw_C} {ws : va_W} {tys : List (ClassId × FieldType)} : FrameBlind (kr_PX tP tI av D cl ws tys) := fun a U g mk q => ⟨kr_blind a U g mk q.1, st_X.moved (u := U) (U := U.calling g mk a) (Vm.Alike.refl U.vm) q.2⟩
section KX
variable {s : State} {H H0 : Heap} {D : va_G} {cl : List vw_C} {b ci q0 tP tI : Nat} {q : vw_C} {fs : List Value} {ws : va_W} {tys : List (ClassId × FieldType)} {As : List Value} {A : Nat → Prop} {locs : List Loc}
theorem st_X.at {U : State} {B : Nat → Prop} (hX : st_X tP tI A s s.heap) (hS : va_S A s.heap H locs) (hAB : ∀ q, B q → A q) (hU : U.heap = H) (hW : s.vm.Alike U.vm) : st_X tP tI B U U.heap := by
  rw [hU]
  exact ((hX.kept hS.2.1).narrow hAB).moved hW
theorem kr_VX (hK : va_K D cl tys s) (hP : va_P D cl ws H) (hc : cl[ci]? = some q) (he : ws[q0]? = some (b, .inr (ci, fs))) (hX : st_X tP tI A s s.heap) (hS : va_S A s.heap H locs) : PreV s H q.1 b (kr_PX tP tI (.ref b :: As) D cl ws tys) As :=
  ⟨kr_blindX, va_recv hK hP hc he, fun U hU hW => ⟨⟨rfl, by rw [hU]; exact hP, va_K.moved hW.alike hK⟩, hX.at hS (fun _ h => h.elim) hU hW.alike⟩⟩
theorem kr_SX (hK : va_K D cl tys s) (hP : va_P D cl ws H) (hX : st_X tP tI A s s.heap) (hS : va_S A s.heap H locs) : PreS s H (kr_PX tP tI As D cl ws tys) As :=
  ⟨kr_blindX, fun U hU hW => ⟨⟨rfl, by rw [hU]; exact hP, va_K.moved hW.alike hK⟩, hX.at hS (fun _ h => h.elim) hU hW.alike⟩⟩
def kw_PX (tP tI : Nat) (av : List Value) (sz : Nat) (D : va_G) (cl : List vw_C) (ws : va_W) (tys : List (ClassId × FieldType)) : Array Value → State → Prop := fun a U => kw_P av sz D cl ws tys a U ∧ st_X tP tI (va_A ws sz) U U.heap
theorem kw_blindX {sz : Nat} {av : List Value} : FrameBlind (kw_PX tP tI av sz D cl ws tys) := fun a U g mk q => ⟨kw_blind a U g mk q.1, st_X.moved (u := U) (U := U.calling g mk a) (Vm.Alike.refl U.vm) q.2⟩
theorem kw_VX (hK : va_K D cl tys s) (hP : va_P D cl ws H) (hD : va_D A ws) (hc : cl[ci]? = some q) (he : ws[q0]? = some (b, .inr (ci, fs))) (hX : st_X tP tI A s s.heap) (hS : va_S A s.heap H locs) (hF : ∀ q, va_A ws H.size q → A q) : PreV s H q.1 b (kw_PX tP tI (.ref b :: As) H.size D cl ws tys) As :=
  ⟨kw_blindX, va_recv hK hP hc he, fun U hU hW => ⟨⟨rfl, by rw [hU], by rw [hU]; exact hP, va_K.moved hW.alike hK, hD.weaken (fun _ _ _ _ => trivial)⟩, hX.at hS hF hU hW.alike⟩⟩
end KX
end
section
/-! the cells of the class: addresses by 'ad', array classes by 'ca'; 0 the house, 1 the search, 2 the table, 3 the products, 4 oneSets, 5 zeroSets, 6 picked, 7 weights, 8 servers, 9 numbers, 10 outputs, 11 sizes, 12 inputs, 13 places, 14 outputsOfProduct, 15 and 16 the products' inputs and sizes -/
abbrev eT (ad : Nat → Nat) (cnt : Int32) (due lon : Int64) : va_E := .inr (0, [.ref (ad 9), .ref (ad 10), .ref (ad 11), .ref (ad 12), .ref (ad 13), .int cnt, .long due, .long lon, .ref (ad 3), .ref (ad 14)])
abbrev eP (ad : Nat → Nat) : va_E := .inr (1, [.ref (ad 15), .ref (ad 16)])
abbrev eS (ad : Nat → Nat) (pk pp bw : Int32) (bs : Int64) : va_E := .inr (2, [.ref (ad 6), .int pk, .int pp, .ref (ad 2), .ref (ad 7), .ref (ad 8), .int bw, .long bs])
abbrev eH (ad : Nat → Nat) (ic oc ga se : Int32) : va_E := .inr (3, [.ref (ad 4), .ref (ad 5), .ref (ad 1), .ref (ad 2), .int ic, .int oc, .int ga, .int se])
abbrev eI (n : Nat) (ca : ClassId) (f : Nat → Int32) : va_E := .inl (ca, n, .inl f)
abbrev eL (n : Nat) (ca : ClassId) (f : Nat → Int64) : va_E := .inl (ca, n, .inr (.inl f))
/-- a callee's words among those of a caller: it has all that stay -/
theorem gd_V {own C : String} {idx : Nat} {y : MethodName} {w0 w1 : Cond} (h1 : Cond.methodLink own idx y ∈ LW) (h2 : Cond.instanceMethod y ∈ LW) (h3 : Cond.selects C y y ∈ LW) (h4 : Cond.initialized C ∈ LW) (hc : w1 ∈ LW) : GoodIn (w0 :: LW) (wsV own idx C y (w1 :: LW)) := by
  have hg : ∀ w ∈ LW, w ∈ w0 :: LW ∧ ((w.onTables && w.keeps) = true ∨ ∃ ty, w = .arrayClass ty) := fun w h => ⟨List.mem_cons_of_mem _ h, good_of_word (List.all_eq_true.mp LW_all w h)⟩
  intro w hw
  rcases List.mem_append.mp hw with hw | hw
  · simp only [List.mem_cons, List.not_mem_nil, or_false] at hw
    rcases hw with rfl | rfl | rfl | rfl
    · exact hg _ h1
    · exact hg _ h2
    · exact hg _ h3
    · exact hg _ h4
  · rcases List.mem_cons.mp hw with rfl | hw
    · exact hg _ hc
    · exact hg _ hw
theorem gd_S {own : String} {idx : Nat} {y : MethodName} {w0 w1 : Cond} (h1 : Cond.methodLink own idx y ∈ LW) (h2 : Cond.static y ∈ LW) (h4 : Cond.initialized y.cls ∈ LW) (hc : w1 ∈ LW) : GoodIn (w0 :: LW) (va_wsS own idx y (w1 :: LW)) := by
  have hg : ∀ w ∈ LW, w ∈ w0 :: LW ∧ ((w.onTables && w.keeps) = true ∨ ∃ ty, w = .arrayClass ty) := fun w h => ⟨List.mem_cons_of_mem _ h, good_of_word (List.all_eq_true.mp LW_all w h)⟩
  intro w hw
  rcases List.mem_append.mp hw with hw | hw
  · simp only [List.mem_cons, List.not_mem_nil, or_false] at hw
    rcases hw with rfl | rfl | rfl
    · exact hg _ h1
    · exact hg _ h2
    · exact hg _ h4
  · rcases List.mem_cons.mp hw with rfl | hw
    · exact hg _ hc
    · exact hg _ hw
theorem gd_C {w0 w1 : Cond} (hc : w1 ∈ LW) : GoodIn (w0 :: LW) (w1 :: LW) := by
  have hg : ∀ w ∈ LW, w ∈ w0 :: LW ∧ ((w.onTables && w.keeps) = true ∨ ∃ ty, w = .arrayClass ty) := fun w h => ⟨List.mem_cons_of_mem _ h, good_of_word (List.all_eq_true.mp LW_all w h)⟩
  intro w hw
  rcases List.mem_cons.mp hw with rfl | hw
  · exact hg _ hc
  · exact hg _ hw
theorem hw_of {w w0 : Cond} {args : Array Value} {s : State} (hts : ∀ w ∈ w0 :: LW, w.before args s = true) (h : w ∈ LW) : w.before args s = true := hts w (List.mem_cons_of_mem _ h)
theorem hin_of {us : List Cond} {w0 : Cond} (h : ∀ w ∈ us, w ∈ LW) : ∀ w ∈ us, w ∈ w0 :: LW := fun w hw => List.mem_cons_of_mem _ (h w hw)
def rmE (d : Nat) : Room := { frames := d + 3, cells := 0, slots := 0, locals := 35 * d + 120 }
end
section
set_option maxHeartbeats 4000000 in
set_option maxRecDepth 100000 in
theorem c_bitCount (l : Launch) (dC : Nat → ClassId) (dI : Nat → Nat → Nat) (ad : Nat → Nat) (ca : Nat → ClassId) (x : Int64) : Met l y_J_bitCount w_J_bitCount ({ frames := 0, cells := 0, slots := 0, locals := 0 }) (kr_P [.long x] (dC, dI) vC [] []) (vp_Si (fun r => r = m_pop x)) 0 0 (fun _ => False) := by
  refine Met.ofW (cc := b_J_bitCount) (maxL := 2) (ret := (some .int)) (by decide) rfl ?_
  intro p e s m args below meth c s₁ B hml hv
  obtain ⟨rfl, hP, hK⟩ := hv
  have hx := B.exec
  have hb := B.bytes
  have hr := B.returns
  have hts := atoms_spec (ws := w_J_bitCount) B.pre
  have hlocks := B.notSynchronized
  have hown : s.vm.findClass R_J = some m.cls := findClass_of_methodNamed B.named
  have hl := lv_entry ([.long x]) (n := 2) (Nat.le_of_ble_eq_true rfl)
  rw [lg_entry_eq]
  generalize (lg_sl ([.long x]) ++ List.replicate (2 - (lg_sl ([.long x])).length) Slot.unset).toArray = ls at hl ⊢
  have hl : lv_has ls 2 [(0, .long x)] := hl
  refine lv_lload_n hx hb d_J_bitCount_0 rfl (lv_at hl 0 rfl) ?_
  refine lv_lload_n hx hb d_J_bitCount_1 rfl (lv_at hl 0 rfl) ?_
  refine lv_iconst (v := 1) hx hb d_J_bitCount_2 (by decide) ?_
  refine lv_lushr (v := ush x 1) hx hb d_J_bitCount_3 rfl ?_
  refine lv_ldc2 hx hb hown (hw_of hts mw_299) d_J_bitCount_4 ?_
  refine lv_land hx hb d_J_bitCount_7 ?_
  refine lv_lsub hx hb d_J_bitCount_8 ?_
  refine lv_lstore_n (lv' := [(0, .long (x - ((ush x 1) &&& 6148914691236517205)))]) hx hb d_J_bitCount_9 rfl hl (by decide) rfl (fun ls hl => ?_)
  refine lv_lload_n hx hb d_J_bitCount_10 rfl (lv_at hl 0 rfl) ?_
  refine lv_ldc2 hx hb hown (hw_of hts mw_300) d_J_bitCount_11 ?_
  refine lv_land hx hb d_J_bitCount_14 ?_
  refine lv_lload_n hx hb d_J_bitCount_15 rfl (lv_at hl 0 rfl) ?_
  refine lv_iconst (v := 2) hx hb d_J_bitCount_16 (by decide) ?_
  refine lv_lushr (v := ush (x - ((ush x 1) &&& 6148914691236517205)) 2) hx hb d_J_bitCount_17 rfl ?_
  refine lv_ldc2 hx hb hown (hw_of hts mw_300) d_J_bitCount_18 ?_
  refine lv_land hx hb d_J_bitCount_21 ?_
  refine lv_ladd hx hb d_J_bitCount_22 ?_
  refine lv_lstore_n (lv' := [(0, .long (((x - ((ush x 1) &&& 6148914691236517205)) &&& 3689348814741910323) + ((ush (x - ((ush x 1) &&& 6148914691236517205)) 2) &&& 3689348814741910323)))]) hx hb d_J_bitCount_23 rfl hl (by decide) rfl (fun ls hl => ?_)
  refine lv_lload_n hx hb d_J_bitCount_24 rfl (lv_at hl 0 rfl) ?_
  refine lv_lload_n hx hb d_J_bitCount_25 rfl (lv_at hl 0 rfl) ?_
  refine lv_iconst (v := 4) hx hb d_J_bitCount_26 (by decide) ?_
  refine lv_lushr (v := ush (((x - ((ush x 1) &&& 6148914691236517205)) &&& 3689348814741910323) + ((ush (x - ((ush x 1) &&& 6148914691236517205)) 2) &&& 3689348814741910323)) 4) hx hb d_J_bitCount_27 rfl ?_
  refine lv_ladd hx hb d_J_bitCount_28 ?_
  refine lv_ldc2 hx hb hown (hw_of hts mw_301) d_J_bitCount_29 ?_
  refine lv_land hx hb d_J_bitCount_32 ?_
  refine lv_lstore_n (lv' := [(0, .long (((((x - ((ush x 1) &&& 6148914691236517205)) &&& 3689348814741910323) + ((ush (x - ((ush x 1) &&& 6148914691236517205)) 2) &&& 3689348814741910323)) + (ush (((x - ((ush x 1) &&& 6148914691236517205)) &&& 3689348814741910323) + ((ush (x - ((ush x 1) &&& 6148914691236517205)) 2) &&& 3689348814741910323)) 4)) &&& 1085102592571150095))]) hx hb d_J_bitCount_33 rfl hl (by decide) rfl (fun ls hl => ?_)
  refine lv_lload_n hx hb d_J_bitCount_34 rfl (lv_at hl 0 rfl) ?_
  refine lv_lload_n hx hb d_J_bitCount_35 rfl (lv_at hl 0 rfl) ?_
  refine lv_bipush (v := 8) hx hb d_J_bitCount_36 (by decide) ?_
  refine lv_lushr (v := ush (((((x - ((ush x 1) &&& 6148914691236517205)) &&& 3689348814741910323) + ((ush (x - ((ush x 1) &&& 6148914691236517205)) 2) &&& 3689348814741910323)) + (ush (((x - ((ush x 1) &&& 6148914691236517205)) &&& 3689348814741910323) + ((ush (x - ((ush x 1) &&& 6148914691236517205)) 2) &&& 3689348814741910323)) 4)) &&& 1085102592571150095) 8) hx hb d_J_bitCount_38 rfl ?_
  refine lv_ladd hx hb d_J_bitCount_39 ?_
  refine lv_lstore_n (lv' := [(0, .long ((((((x - ((ush x 1) &&& 6148914691236517205)) &&& 3689348814741910323) + ((ush (x - ((ush x 1) &&& 6148914691236517205)) 2) &&& 3689348814741910323)) + (ush (((x - ((ush x 1) &&& 6148914691236517205)) &&& 3689348814741910323) + ((ush (x - ((ush x 1) &&& 6148914691236517205)) 2) &&& 3689348814741910323)) 4)) &&& 1085102592571150095) + (ush (((((x - ((ush x 1) &&& 6148914691236517205)) &&& 3689348814741910323) + ((ush (x - ((ush x 1) &&& 6148914691236517205)) 2) &&& 3689348814741910323)) + (ush (((x - ((ush x 1) &&& 6148914691236517205)) &&& 3689348814741910323) + ((ush (x - ((ush x 1) &&& 6148914691236517205)) 2) &&& 3689348814741910323)) 4)) &&& 1085102592571150095) 8)))]) hx hb d_J_bitCount_40 rfl hl (by decide) rfl (fun ls hl => ?_)
  refine lv_lload_n hx hb d_J_bitCount_41 rfl (lv_at hl 0 rfl) ?_
  refine lv_lload_n hx hb d_J_bitCount_42 rfl (lv_at hl 0 rfl) ?_
  refine lv_bipush (v := 16) hx hb d_J_bitCount_43 (by decide) ?_
  refine lv_lushr (v := ush ((((((x - ((ush x 1) &&& 6148914691236517205)) &&& 3689348814741910323) + ((ush (x - ((ush x 1) &&& 6148914691236517205)) 2) &&& 3689348814741910323)) + (ush (((x - ((ush x 1) &&& 6148914691236517205)) &&& 3689348814741910323) + ((ush (x - ((ush x 1) &&& 6148914691236517205)) 2) &&& 3689348814741910323)) 4)) &&& 1085102592571150095) + (ush (((((x - ((ush x 1) &&& 6148914691236517205)) &&& 3689348814741910323) + ((ush (x - ((ush x 1) &&& 6148914691236517205)) 2) &&& 3689348814741910323)) + (ush (((x - ((ush x 1) &&& 6148914691236517205)) &&& 3689348814741910323) + ((ush (x - ((ush x 1) &&& 6148914691236517205)) 2) &&& 3689348814741910323)) 4)) &&& 1085102592571150095) 8)) 16) hx hb d_J_bitCount_45 rfl ?_
  refine lv_ladd hx hb d_J_bitCount_46 ?_
  refine lv_lstore_n (lv' := [(0, .long (((((((x - ((ush x 1) &&& 6148914691236517205)) &&& 3689348814741910323) + ((ush (x - ((ush x 1) &&& 6148914691236517205)) 2) &&& 3689348814741910323)) + (ush (((x - ((ush x 1) &&& 6148914691236517205)) &&& 3689348814741910323) + ((ush (x - ((ush x 1) &&& 6148914691236517205)) 2) &&& 3689348814741910323)) 4)) &&& 1085102592571150095) + (ush (((((x - ((ush x 1) &&& 6148914691236517205)) &&& 3689348814741910323) + ((ush (x - ((ush x 1) &&& 6148914691236517205)) 2) &&& 3689348814741910323)) + (ush (((x - ((ush x 1) &&& 6148914691236517205)) &&& 3689348814741910323) + ((ush (x - ((ush x 1) &&& 6148914691236517205)) 2) &&& 3689348814741910323)) 4)) &&& 1085102592571150095) 8)) + (ush ((((((x - ((ush x 1) &&& 6148914691236517205)) &&& 3689348814741910323) + ((ush (x - ((ush x 1) &&& 6148914691236517205)) 2) &&& 3689348814741910323)) + (ush (((x - ((ush x 1) &&& 6148914691236517205)) &&& 3689348814741910323) + ((ush (x - ((ush x 1) &&& 6148914691236517205)) 2) &&& 3689348814741910323)) 4)) &&& 1085102592571150095) + (ush (((((x - ((ush x 1) &&& 6148914691236517205)) &&& 3689348814741910323) + ((ush (x - ((ush x 1) &&& 6148914691236517205)) 2) &&& 3689348814741910323)) + (ush (((x - ((ush x 1) &&& 6148914691236517205)) &&& 3689348814741910323) + ((ush (x - ((ush x 1) &&& 6148914691236517205)) 2) &&& 3689348814741910323)) 4)) &&& 1085102592571150095) 8)) 16)))]) hx hb d_J_bitCount_47 rfl hl (by decide) rfl (fun ls hl => ?_)
  refine lv_lload_n hx hb d_J_bitCount_48 rfl (lv_at hl 0 rfl) ?_
  refine lv_lload_n hx hb d_J_bitCount_49 rfl (lv_at hl 0 rfl) ?_
  refine lv_bipush (v := 32) hx hb d_J_bitCount_50 (by decide) ?_
  refine lv_lushr (v := ush (((((((x - ((ush x 1) &&& 6148914691236517205)) &&& 3689348814741910323) + ((ush (x - ((ush x 1) &&& 6148914691236517205)) 2) &&& 3689348814741910323)) + (ush (((x - ((ush x 1) &&& 6148914691236517205)) &&& 3689348814741910323) + ((ush (x - ((ush x 1) &&& 6148914691236517205)) 2) &&& 3689348814741910323)) 4)) &&& 1085102592571150095) + (ush (((((x - ((ush x 1) &&& 6148914691236517205)) &&& 3689348814741910323) + ((ush (x - ((ush x 1) &&& 6148914691236517205)) 2) &&& 3689348814741910323)) + (ush (((x - ((ush x 1) &&& 6148914691236517205)) &&& 3689348814741910323) + ((ush (x - ((ush x 1) &&& 6148914691236517205)) 2) &&& 3689348814741910323)) 4)) &&& 1085102592571150095) 8)) + (ush ((((((x - ((ush x 1) &&& 6148914691236517205)) &&& 3689348814741910323) + ((ush (x - ((ush x 1) &&& 6148914691236517205)) 2) &&& 3689348814741910323)) + (ush (((x - ((ush x 1) &&& 6148914691236517205)) &&& 3689348814741910323) + ((ush (x - ((ush x 1) &&& 6148914691236517205)) 2) &&& 3689348814741910323)) 4)) &&& 1085102592571150095) + (ush (((((x - ((ush x 1) &&& 6148914691236517205)) &&& 3689348814741910323) + ((ush (x - ((ush x 1) &&& 6148914691236517205)) 2) &&& 3689348814741910323)) + (ush (((x - ((ush x 1) &&& 6148914691236517205)) &&& 3689348814741910323) + ((ush (x - ((ush x 1) &&& 6148914691236517205)) 2) &&& 3689348814741910323)) 4)) &&& 1085102592571150095) 8)) 16)) 32) hx hb d_J_bitCount_52 rfl ?_
  refine lv_ladd hx hb d_J_bitCount_53 ?_
  refine lv_lstore_n (lv' := [(0, .long ((((((((x - ((ush x 1) &&& 6148914691236517205)) &&& 3689348814741910323) + ((ush (x - ((ush x 1) &&& 6148914691236517205)) 2) &&& 3689348814741910323)) + (ush (((x - ((ush x 1) &&& 6148914691236517205)) &&& 3689348814741910323) + ((ush (x - ((ush x 1) &&& 6148914691236517205)) 2) &&& 3689348814741910323)) 4)) &&& 1085102592571150095) + (ush (((((x - ((ush x 1) &&& 6148914691236517205)) &&& 3689348814741910323) + ((ush (x - ((ush x 1) &&& 6148914691236517205)) 2) &&& 3689348814741910323)) + (ush (((x - ((ush x 1) &&& 6148914691236517205)) &&& 3689348814741910323) + ((ush (x - ((ush x 1) &&& 6148914691236517205)) 2) &&& 3689348814741910323)) 4)) &&& 1085102592571150095) 8)) + (ush ((((((x - ((ush x 1) &&& 6148914691236517205)) &&& 3689348814741910323) + ((ush (x - ((ush x 1) &&& 6148914691236517205)) 2) &&& 3689348814741910323)) + (ush (((x - ((ush x 1) &&& 6148914691236517205)) &&& 3689348814741910323) + ((ush (x - ((ush x 1) &&& 6148914691236517205)) 2) &&& 3689348814741910323)) 4)) &&& 1085102592571150095) + (ush (((((x - ((ush x 1) &&& 6148914691236517205)) &&& 3689348814741910323) + ((ush (x - ((ush x 1) &&& 6148914691236517205)) 2) &&& 3689348814741910323)) + (ush (((x - ((ush x 1) &&& 6148914691236517205)) &&& 3689348814741910323) + ((ush (x - ((ush x 1) &&& 6148914691236517205)) 2) &&& 3689348814741910323)) 4)) &&& 1085102592571150095) 8)) 16)) + (ush (((((((x - ((ush x 1) &&& 6148914691236517205)) &&& 3689348814741910323) + ((ush (x - ((ush x 1) &&& 6148914691236517205)) 2) &&& 3689348814741910323)) + (ush (((x - ((ush x 1) &&& 6148914691236517205)) &&& 3689348814741910323) + ((ush (x - ((ush x 1) &&& 6148914691236517205)) 2) &&& 3689348814741910323)) 4)) &&& 1085102592571150095) + (ush (((((x - ((ush x 1) &&& 6148914691236517205)) &&& 3689348814741910323) + ((ush (x - ((ush x 1) &&& 6148914691236517205)) 2) &&& 3689348814741910323)) + (ush (((x - ((ush x 1) &&& 6148914691236517205)) &&& 3689348814741910323) + ((ush (x - ((ush x 1) &&& 6148914691236517205)) 2) &&& 3689348814741910323)) 4)) &&& 1085102592571150095) 8)) + (ush ((((((x - ((ush x 1) &&& 6148914691236517205)) &&& 3689348814741910323) + ((ush (x - ((ush x 1) &&& 6148914691236517205)) 2) &&& 3689348814741910323)) + (ush (((x - ((ush x 1) &&& 6148914691236517205)) &&& 3689348814741910323) + ((ush (x - ((ush x 1) &&& 6148914691236517205)) 2) &&& 3689348814741910323)) 4)) &&& 1085102592571150095) + (ush (((((x - ((ush x 1) &&& 6148914691236517205)) &&& 3689348814741910323) + ((ush (x - ((ush x 1) &&& 6148914691236517205)) 2) &&& 3689348814741910323)) + (ush (((x - ((ush x 1) &&& 6148914691236517205)) &&& 3689348814741910323) + ((ush (x - ((ush x 1) &&& 6148914691236517205)) 2) &&& 3689348814741910323)) 4)) &&& 1085102592571150095) 8)) 16)) 32)))]) hx hb d_J_bitCount_54 rfl hl (by decide) rfl (fun ls hl => ?_)
  refine lv_lload_n hx hb d_J_bitCount_55 rfl (lv_at hl 0 rfl) ?_
  refine lv_l2i hx hb d_J_bitCount_56 rfl ?_
  refine lv_bipush (v := 127) hx hb d_J_bitCount_57 (by decide) ?_
  refine lv_iand hx hb d_J_bitCount_59 ?_
  exact W.iret (v := (((((((((x - ((ush x 1) &&& 6148914691236517205)) &&& 3689348814741910323) + ((ush (x - ((ush x 1) &&& 6148914691236517205)) 2) &&& 3689348814741910323)) + (ush (((x - ((ush x 1) &&& 6148914691236517205)) &&& 3689348814741910323) + ((ush (x - ((ush x 1) &&& 6148914691236517205)) 2) &&& 3689348814741910323)) 4)) &&& 1085102592571150095) + (ush (((((x - ((ush x 1) &&& 6148914691236517205)) &&& 3689348814741910323) + ((ush (x - ((ush x 1) &&& 6148914691236517205)) 2) &&& 3689348814741910323)) + (ush (((x - ((ush x 1) &&& 6148914691236517205)) &&& 3689348814741910323) + ((ush (x - ((ush x 1) &&& 6148914691236517205)) 2) &&& 3689348814741910323)) 4)) &&& 1085102592571150095) 8)) + (ush ((((((x - ((ush x 1) &&& 6148914691236517205)) &&& 3689348814741910323) + ((ush (x - ((ush x 1) &&& 6148914691236517205)) 2) &&& 3689348814741910323)) + (ush (((x - ((ush x 1) &&& 6148914691236517205)) &&& 3689348814741910323) + ((ush (x - ((ush x 1) &&& 6148914691236517205)) 2) &&& 3689348814741910323)) 4)) &&& 1085102592571150095) + (ush (((((x - ((ush x 1) &&& 6148914691236517205)) &&& 3689348814741910323) + ((ush (x - ((ush x 1) &&& 6148914691236517205)) 2) &&& 3689348814741910323)) + (ush (((x - ((ush x 1) &&& 6148914691236517205)) &&& 3689348814741910323) + ((ush (x - ((ush x 1) &&& 6148914691236517205)) 2) &&& 3689348814741910323)) 4)) &&& 1085102592571150095) 8)) 16)) + (ush (((((((x - ((ush x 1) &&& 6148914691236517205)) &&& 3689348814741910323) + ((ush (x - ((ush x 1) &&& 6148914691236517205)) 2) &&& 3689348814741910323)) + (ush (((x - ((ush x 1) &&& 6148914691236517205)) &&& 3689348814741910323) + ((ush (x - ((ush x 1) &&& 6148914691236517205)) 2) &&& 3689348814741910323)) 4)) &&& 1085102592571150095) + (ush (((((x - ((ush x 1) &&& 6148914691236517205)) &&& 3689348814741910323) + ((ush (x - ((ush x 1) &&& 6148914691236517205)) 2) &&& 3689348814741910323)) + (ush (((x - ((ush x 1) &&& 6148914691236517205)) &&& 3689348814741910323) + ((ush (x - ((ush x 1) &&& 6148914691236517205)) 2) &&& 3689348814741910323)) 4)) &&& 1085102592571150095) 8)) + (ush ((((((x - ((ush x 1) &&& 6148914691236517205)) &&& 3689348814741910323) + ((ush (x - ((ush x 1) &&& 6148914691236517205)) 2) &&& 3689348814741910323)) + (ush (((x - ((ush x 1) &&& 6148914691236517205)) &&& 3689348814741910323) + ((ush (x - ((ush x 1) &&& 6148914691236517205)) 2) &&& 3689348814741910323)) 4)) &&& 1085102592571150095) + (ush (((((x - ((ush x 1) &&& 6148914691236517205)) &&& 3689348814741910323) + ((ush (x - ((ush x 1) &&& 6148914691236517205)) 2) &&& 3689348814741910323)) + (ush (((x - ((ush x 1) &&& 6148914691236517205)) &&& 3689348814741910323) + ((ush (x - ((ush x 1) &&& 6148914691236517205)) 2) &&& 3689348814741910323)) 4)) &&& 1085102592571150095) 8)) 16)) 32)).toInt32) &&& 127) hx hb hr (fun t ht hW => ⟨(((((((((x - ((ush x 1) &&& 6148914691236517205)) &&& 3689348814741910323) + ((ush (x - ((ush x 1) &&& 6148914691236517205)) 2) &&& 3689348814741910323)) + (ush (((x - ((ush x 1) &&& 6148914691236517205)) &&& 3689348814741910323) + ((ush (x - ((ush x 1) &&& 6148914691236517205)) 2) &&& 3689348814741910323)) 4)) &&& 1085102592571150095) + (ush (((((x - ((ush x 1) &&& 6148914691236517205)) &&& 3689348814741910323) + ((ush (x - ((ush x 1) &&& 6148914691236517205)) 2) &&& 3689348814741910323)) + (ush (((x - ((ush x 1) &&& 6148914691236517205)) &&& 3689348814741910323) + ((ush (x - ((ush x 1) &&& 6148914691236517205)) 2) &&& 3689348814741910323)) 4)) &&& 1085102592571150095) 8)) + (ush ((((((x - ((ush x 1) &&& 6148914691236517205)) &&& 3689348814741910323) + ((ush (x - ((ush x 1) &&& 6148914691236517205)) 2) &&& 3689348814741910323)) + (ush (((x - ((ush x 1) &&& 6148914691236517205)) &&& 3689348814741910323) + ((ush (x - ((ush x 1) &&& 6148914691236517205)) 2) &&& 3689348814741910323)) 4)) &&& 1085102592571150095) + (ush (((((x - ((ush x 1) &&& 6148914691236517205)) &&& 3689348814741910323) + ((ush (x - ((ush x 1) &&& 6148914691236517205)) 2) &&& 3689348814741910323)) + (ush (((x - ((ush x 1) &&& 6148914691236517205)) &&& 3689348814741910323) + ((ush (x - ((ush x 1) &&& 6148914691236517205)) 2) &&& 3689348814741910323)) 4)) &&& 1085102592571150095) 8)) 16)) + (ush (((((((x - ((ush x 1) &&& 6148914691236517205)) &&& 3689348814741910323) + ((ush (x - ((ush x 1) &&& 6148914691236517205)) 2) &&& 3689348814741910323)) + (ush (((x - ((ush x 1) &&& 6148914691236517205)) &&& 3689348814741910323) + ((ush (x - ((ush x 1) &&& 6148914691236517205)) 2) &&& 3689348814741910323)) 4)) &&& 1085102592571150095) + (ush (((((x - ((ush x 1) &&& 6148914691236517205)) &&& 3689348814741910323) + ((ush (x - ((ush x 1) &&& 6148914691236517205)) 2) &&& 3689348814741910323)) + (ush (((x - ((ush x 1) &&& 6148914691236517205)) &&& 3689348814741910323) + ((ush (x - ((ush x 1) &&& 6148914691236517205)) 2) &&& 3689348814741910323)) 4)) &&& 1085102592571150095) 8)) + (ush ((((((x - ((ush x 1) &&& 6148914691236517205)) &&& 3689348814741910323) + ((ush (x - ((ush x 1) &&& 6148914691236517205)) 2) &&& 3689348814741910323)) + (ush (((x - ((ush x 1) &&& 6148914691236517205)) &&& 3689348814741910323) + ((ush (x - ((ush x 1) &&& 6148914691236517205)) 2) &&& 3689348814741910323)) 4)) &&& 1085102592571150095) + (ush (((((x - ((ush x 1) &&& 6148914691236517205)) &&& 3689348814741910323) + ((ush (x - ((ush x 1) &&& 6148914691236517205)) 2) &&& 3689348814741910323)) + (ush (((x - ((ush x 1) &&& 6148914691236517205)) &&& 3689348814741910323) + ((ush (x - ((ush x 1) &&& 6148914691236517205)) 2) &&& 3689348814741910323)) 4)) &&& 1085102592571150095) 8)) 16)) 32)).toInt32) &&& 127, rfl, rfl, ht⟩) (fun q h => by cases h) d_J_bitCount_60
end
section
set_option maxHeartbeats 4000000 in
set_option maxRecDepth 100000 in
/-- do some candidates serve all places that are due -/
theorem c_isCover (l : Launch) (dC : Nat → ClassId) (dI : Nat → Nat → Nat) (ad : Nat → Nat) (ca : Nat → ClassId) (cn : Nat) (hc : cn ≤ 63) (due : Int64) (lon : Int64) (pla : Nat → Int64) (sm : Int64) : Met l y_T_isCover w_T_isCover ({ frames := 0, cells := 0, slots := 0, locals := 0 }) (kr_P [.ref (ad 2), .long sm] (dC, dI) vC [(ad 2, eT ad (nI cn) due lon), (ad 13, eL 81 (ca 13) pla)] [(ca 13, .long)]) (vp_Si (fun r => r = if (decide (fo (mc_covf pla sm) cn 0 = due)) = true then 1 else 0)) 0 0 (fun _ => False) := by
  refine Met.ofW (cc := b_T_isCover) (maxL := 6) (ret := (some .boolean)) (by decide) rfl ?_
  intro p e s m args below meth c s₁ B hml hv
  obtain ⟨rfl, hP, hK⟩ := hv
  have hx := B.exec
  have hb := B.bytes
  have hr := B.returns
  have hts := atoms_spec (ws := w_T_isCover) B.pre
  have hlocks := B.notSynchronized
  have hown : s.vm.findClass R_T = some m.cls := findClass_of_methodNamed B.named
  have hl := lv_entry ([.ref (ad 2), .long sm]) (n := 6) (Nat.le_of_ble_eq_true rfl)
  rw [lg_entry_eq]
  generalize (lg_sl ([.ref (ad 2), .long sm]) ++ List.replicate (6 - (lg_sl ([.ref (ad 2), .long sm])).length) Slot.unset).toArray = ls at hl ⊢
  have hl : lv_has ls 6 [(0, .ref (ad 2)), (1, .long sm)] := hl
  refine lv_lconst (v := 0) hx hb d_T_isCover_0 rfl ?_
  refine lv_lstore_n (lv' := [(3, .long 0), (0, .ref (ad 2)), (1, .long sm)]) hx hb d_T_isCover_1 rfl hl (by decide) rfl (fun ls hl => ?_)
  refine lv_iconst (v := 0) hx hb d_T_isCover_2 (by decide) ?_
  refine lv_istore (lv' := [(5, .int 0), (3, .long 0), (0, .ref (ad 2)), (1, .long sm)]) hx hb d_T_isCover_3 hl (by decide) rfl (fun ls hl => ?_)
  refine k_loopR (fun iv ls => lv_has ls 6 [(0, .ref (ad 2)), (1, .long sm), (3, .long (fo (mc_covf pla sm) iv 0)), (5, .int (nI iv))] ∧ True) cn ?_ 0 _ (Nat.zero_le _) ?_
  · intro iv ls hiiv hI ihiv
    obtain ⟨hl, -⟩ := hI
    refine lv_iload hx hb d_T_isCover_5 (lv_at hl 3 rfl) ?_
    refine lv_aload_n hx hb d_T_isCover_7 rfl (lv_at hl 0 rfl) ?_
    refine va_get (D := (dC, dI)) (ci := 0) (v := .int (nI cn)) (C := R_T) (T := F_T) (N := 10) hx hb hts (hin_of in_T) hown hK hP 0 rfl rfl 5 (by decide) (hw_of hts mw_110) (fun _ h9 => h9) rfl d_T_isCover_8 ?_
    refine k_ge (a := iv) (b := cn) (tgt := 41) hx hb rfl rfl (by omega) (by omega) d_T_isCover_11 (by decide) (fun c_11 => ?_) (fun c_11 => ?_)
    · obtain rfl : cn = iv := by omega
      refine lv_lload_n hx hb d_T_isCover_41 rfl (lv_at hl 2 rfl) ?_
      refine lv_aload_n hx hb d_T_isCover_42 rfl (lv_at hl 0 rfl) ?_
      refine va_get (D := (dC, dI)) (ci := 0) (v := .long due) (C := R_T) (T := F_T) (N := 10) hx hb hts (hin_of in_T) hown hK hP 0 rfl rfl 6 (by decide) (hw_of hts mw_112) (fun _ h9 => h9) rfl d_T_isCover_43 ?_
      refine k_lne (tgt := 54) hx hb d_T_isCover_46 d_T_isCover_47 (by decide) (fun c_46 => ?_) (fun c_46 => ?_)
      · refine lv_iconst (v := 0) hx hb d_T_isCover_54 (by decide) ?_
        exact W.zret (v := 0) hx hb hr rfl (fun t ht hW => ⟨0, rfl, by (first | rw [decide_eq_true c_11] | rw [decide_eq_false c_11] | rw [decide_eq_false (Nat.not_lt.mpr c_11)] | rw [decide_eq_false (Nat.not_le.mpr c_11)] | rw [c_11] | skip); (first | rw [decide_eq_true c_46] | rw [decide_eq_false c_46] | rw [decide_eq_false (Nat.not_lt.mpr c_46)] | rw [decide_eq_false (Nat.not_le.mpr c_46)] | rw [c_46] | skip); rfl, ht⟩) (fun q h => by cases h) d_T_isCover_55
      · refine lv_iconst (v := 1) hx hb d_T_isCover_50 (by decide) ?_
        refine lv_goto (tgt := 55) hx hb d_T_isCover_51 (by decide) ?_
        exact W.zret (v := 1) hx hb hr rfl (fun t ht hW => ⟨1, rfl, by (first | rw [decide_eq_true c_11] | rw [decide_eq_false c_11] | rw [decide_eq_false (Nat.not_lt.mpr c_11)] | rw [decide_eq_false (Nat.not_le.mpr c_11)] | rw [c_11] | skip); (first | rw [decide_eq_true c_46] | rw [decide_eq_false c_46] | rw [decide_eq_false (Nat.not_lt.mpr c_46)] | rw [decide_eq_false (Nat.not_le.mpr c_46)] | rw [c_46] | skip); rfl, ht⟩) (fun q h => by cases h) d_T_isCover_55
    · refine lv_lload_n hx hb d_T_isCover_14 rfl (lv_at hl 1 rfl) ?_
      refine lv_iload hx hb d_T_isCover_15 (lv_at hl 3 rfl) ?_
      refine k_bit (i := iv) (tgt := 35) hx hb rfl (by omega) d_T_isCover_17 d_T_isCover_18 d_T_isCover_19 d_T_isCover_20 d_T_isCover_21 d_T_isCover_22 (by decide) (fun b_17 => ?_) (fun b_17 => ?_)
      · refine lv_iinc (v := nI (iv + 1)) (lv' := [(5, .int (nI (iv + 1))), (0, .ref (ad 2)), (1, .long sm), (3, .long (fo (mc_covf pla sm) iv 0))]) hx hb d_T_isCover_35 hl (k := 3) rfl (k_inc _) (by decide) rfl (fun ls hl => ?_)
        refine lv_goto (tgt := 5) hx hb d_T_isCover_38 (by decide) ?_
        refine ihiv _ (by omega) ?_
        have e_1 : fo (mc_covf pla sm) (iv + 1) 0 = fo (mc_covf pla sm) iv 0 := by simp [fo_s, mc_covf, b_17]
        exact ⟨by (try rw [e_1]); exact lv_sub hl [1, 2, 3, 0] rfl, trivial⟩
      · refine lv_lload_n hx hb d_T_isCover_25 rfl (lv_at hl 2 rfl) ?_
        refine lv_aload_n hx hb d_T_isCover_26 rfl (lv_at hl 0 rfl) ?_
        refine va_get (D := (dC, dI)) (ci := 0) (v := .ref (ad 13)) (C := R_T) (T := F_T) (N := 10) hx hb hts (hin_of in_T) hown hK hP 0 rfl rfl 4 (by decide) (hw_of hts mw_107) (fun _ h9 => h9) rfl d_T_isCover_27 ?_
        refine lv_iload hx hb d_T_isCover_30 (lv_at hl 3 rfl) ?_
        refine k_lald (k := iv) hx hb hK hP 1 0 rfl rfl rfl (by omega) (by decide) d_T_isCover_32 ?_
        refine lv_lor hx hb d_T_isCover_33 ?_
        refine lv_lstore_n (lv' := [(3, .long ((fo (mc_covf pla sm) iv 0) ||| (pla iv))), (0, .ref (ad 2)), (1, .long sm), (5, .int (nI iv))]) hx hb d_T_isCover_34 rfl hl (by decide) rfl (fun ls hl => ?_)
        refine lv_iinc (v := nI (iv + 1)) (lv' := [(5, .int (nI (iv + 1))), (3, .long ((fo (mc_covf pla sm) iv 0) ||| (pla iv))), (0, .ref (ad 2)), (1, .long sm)]) hx hb d_T_isCover_35 hl (k := 3) rfl (k_inc _) (by decide) rfl (fun ls hl => ?_)
        refine lv_goto (tgt := 5) hx hb d_T_isCover_38 (by decide) ?_
        refine ihiv _ (by omega) ?_
        have e_2 : fo (mc_covf pla sm) (iv + 1) 0 = (fo (mc_covf pla sm) iv 0) ||| (pla iv) := by simp [fo_s, mc_covf, b_17]
        exact ⟨by (try rw [e_2]); exact lv_sub hl [2, 3, 1, 0] rfl, trivial⟩
  · have hdone : True := trivial
    have e_3 : fo (mc_covf pla sm) 0 0 = 0 := rfl
    have e_4 : nI 0 = 0 := rfl
    exact ⟨by (try rw [e_3]); (try rw [e_4]); exact lv_sub hl [2, 3, 1, 0] rfl, trivial⟩
set_option maxHeartbeats 4000000 in
set_option maxRecDepth 100000 in
/-- is candidate k needed -/
theorem c_isNeeded (l : Launch) (dC : Nat → ClassId) (dI : Nat → Nat → Nat) (ad : Nat → Nat) (ca : Nat → ClassId) (cn : Nat) (hc : cn ≤ 63) (due : Int64) (lon : Int64) (pla : Nat → Int64) (k : Nat) (hk : k < cn) : Met l y_T_isNeeded w_T_isNeeded ({ frames := 0, cells := 0, slots := 0, locals := 0 }) (kr_P [.ref (ad 2), .int (nI k)] (dC, dI) vC [(ad 2, eT ad (nI cn) due lon), (ad 13, eL 81 (ca 13) pla)] [(ca 13, .long)]) (vp_Si (fun r => r = if (!decide (pla k &&& lon = 0)) = true then 1 else 0)) 0 0 (fun _ => False) := by
  refine Met.ofW (cc := b_T_isNeeded) (maxL := 2) (ret := (some .boolean)) (by decide) rfl ?_
  intro p e s m args below meth c s₁ B hml hv
  obtain ⟨rfl, hP, hK⟩ := hv
  have hx := B.exec
  have hb := B.bytes
  have hr := B.returns
  have hts := atoms_spec (ws := w_T_isNeeded) B.pre
  have hlocks := B.notSynchronized
  have hown : s.vm.findClass R_T = some m.cls := findClass_of_methodNamed B.named
  have hl := lv_entry ([.ref (ad 2), .int (nI k)]) (n := 2) (Nat.le_of_ble_eq_true rfl)
  rw [lg_entry_eq]
  generalize (lg_sl ([.ref (ad 2), .int (nI k)]) ++ List.replicate (2 - (lg_sl ([.ref (ad 2), .int (nI k)])).length) Slot.unset).toArray = ls at hl ⊢
  have hl : lv_has ls 2 [(0, .ref (ad 2)), (1, .int (nI k))] := hl
  refine lv_iload_n hx hb d_T_isNeeded_0 rfl (lv_at hl 1 rfl) ?_
  refine lv_if_lt (tgt := 32) hx hb d_T_isNeeded_1 (by decide) (fun h => absurd h (nI_pos (by omega))) (fun _ => ?_)
  refine lv_iload_n hx hb d_T_isNeeded_4 rfl (lv_at hl 1 rfl) ?_
  refine lv_aload_n hx hb d_T_isNeeded_5 rfl (lv_at hl 0 rfl) ?_
  refine va_get (D := (dC, dI)) (ci := 0) (v := .int (nI cn)) (C := R_T) (T := F_T) (N := 10) hx hb hts (hin_of in_T) hown hK hP 0 rfl rfl 5 (by decide) (hw_of hts mw_110) (fun _ h9 => h9) rfl d_T_isNeeded_6 ?_
  refine k_ge (a := k) (b := cn) (tgt := 32) hx hb rfl rfl (by omega) (by omega) d_T_isNeeded_9 (by decide) (fun c_9 => ?_) (fun c_9 => ?_)
  · exfalso; omega
  · refine lv_aload_n hx hb d_T_isNeeded_12 rfl (lv_at hl 0 rfl) ?_
    refine va_get (D := (dC, dI)) (ci := 0) (v := .ref (ad 13)) (C := R_T) (T := F_T) (N := 10) hx hb hts (hin_of in_T) hown hK hP 0 rfl rfl 4 (by decide) (hw_of hts mw_107) (fun _ h9 => h9) rfl d_T_isNeeded_13 ?_
    refine lv_iload_n hx hb d_T_isNeeded_16 rfl (lv_at hl 1 rfl) ?_
    refine k_lald (k := k) hx hb hK hP 1 0 rfl rfl rfl (by omega) (by decide) d_T_isNeeded_17 ?_
    refine lv_aload_n hx hb d_T_isNeeded_18 rfl (lv_at hl 0 rfl) ?_
    refine va_get (D := (dC, dI)) (ci := 0) (v := .long lon) (C := R_T) (T := F_T) (N := 10) hx hb hts (hin_of in_T) hown hK hP 0 rfl rfl 7 (by decide) (hw_of hts mw_114) (fun _ h9 => h9) rfl d_T_isNeeded_19 ?_
    refine lv_land hx hb d_T_isNeeded_22 ?_
    refine lv_lconst (v := 0) hx hb d_T_isNeeded_23 rfl ?_
    refine k_leq (tgt := 32) hx hb d_T_isNeeded_24 d_T_isNeeded_25 (by decide) (fun c_24 => ?_) (fun c_24 => ?_)
    · refine lv_iconst (v := 0) hx hb d_T_isNeeded_32 (by decide) ?_
      exact W.zret (v := 0) hx hb hr rfl (fun t ht hW => ⟨0, rfl, by (first | rw [decide_eq_true c_9] | rw [decide_eq_false c_9] | rw [decide_eq_false (Nat.not_lt.mpr c_9)] | rw [decide_eq_false (Nat.not_le.mpr c_9)] | rw [c_9] | skip); (first | rw [decide_eq_true c_24] | rw [decide_eq_false c_24] | rw [decide_eq_false (Nat.not_lt.mpr c_24)] | rw [decide_eq_false (Nat.not_le.mpr c_24)] | rw [c_24] | skip); rfl, ht⟩) (fun q h => by cases h) d_T_isNeeded_33
    · refine lv_iconst (v := 1) hx hb d_T_isNeeded_28 (by decide) ?_
      refine lv_goto (tgt := 33) hx hb d_T_isNeeded_29 (by decide) ?_
      exact W.zret (v := 1) hx hb hr rfl (fun t ht hW => ⟨1, rfl, by (first | rw [decide_eq_true c_9] | rw [decide_eq_false c_9] | rw [decide_eq_false (Nat.not_lt.mpr c_9)] | rw [decide_eq_false (Nat.not_le.mpr c_9)] | rw [c_9] | skip); (first | rw [decide_eq_true c_24] | rw [decide_eq_false c_24] | rw [decide_eq_false (Nat.not_lt.mpr c_24)] | rw [decide_eq_false (Nat.not_le.mpr c_24)] | rw [c_24] | skip); rfl, ht⟩) (fun q h => by cases h) d_T_isNeeded_33
set_option maxHeartbeats 4000000 in
set_option maxRecDepth 100000 in
theorem c_outputsOf (l : Launch) (dC : Nat → ClassId) (dI : Nat → Nat → Nat) (ad : Nat → Nat) (ca : Nat → ClassId) (zer : Nat → Int32) (w : Int32) (mo : Nat) (hmo : mo ≤ 2) : Met l y_T_outputsOf w_T_outputsOf ({ frames := 0, cells := 0, slots := 0, locals := 0 }) (kr_P [.int w, .int (nI mo), .ref (ad 5)] (dC, dI) vC [(ad 5, eI 2 (ca 5) zer)] [(ca 5, .int)]) (vp_Si (fun r => r = fo (mc_outf w zer) mo 0)) 0 0 (fun _ => False) := by
  refine Met.ofW (cc := b_T_outputsOf) (maxL := 5) (ret := (some .int)) (by decide) rfl ?_
  intro p e s m args below meth c s₁ B hml hv
  obtain ⟨rfl, hP, hK⟩ := hv
  have hx := B.exec
  have hb := B.bytes
  have hr := B.returns
  have hts := atoms_spec (ws := w_T_outputsOf) B.pre
  have hlocks := B.notSynchronized
  have hown : s.vm.findClass R_T = some m.cls := findClass_of_methodNamed B.named
  have hl := lv_entry ([.int w, .int (nI mo), .ref (ad 5)]) (n := 5) (Nat.le_of_ble_eq_true rfl)
  rw [lg_entry_eq]
  generalize (lg_sl ([.int w, .int (nI mo), .ref (ad 5)]) ++ List.replicate (5 - (lg_sl ([.int w, .int (nI mo), .ref (ad 5)])).length) Slot.unset).toArray = ls at hl ⊢
  have hl : lv_has ls 5 [(0, .int w), (1, .int (nI mo)), (2, .ref (ad 5))] := hl
  refine lv_iconst (v := 0) hx hb d_T_outputsOf_0 (by decide) ?_
  refine lv_istore_n (lv' := [(3, .int 0), (0, .int w), (1, .int (nI mo)), (2, .ref (ad 5))]) hx hb d_T_outputsOf_1 rfl hl (by decide) rfl (fun ls hl => ?_)
  refine lv_iconst (v := 0) hx hb d_T_outputsOf_2 (by decide) ?_
  refine lv_istore (lv' := [(4, .int 0), (3, .int 0), (0, .int w), (1, .int (nI mo)), (2, .ref (ad 5))]) hx hb d_T_outputsOf_3 hl (by decide) rfl (fun ls hl => ?_)
  refine k_loopR (fun iv ls => lv_has ls 5 [(0, .int w), (1, .int (nI mo)), (2, .ref (ad 5)), (3, .int (fo (mc_outf w zer) iv 0)), (4, .int (nI iv))] ∧ True) mo ?_ 0 _ (Nat.zero_le _) ?_
  · intro iv ls hiiv hI ihiv
    obtain ⟨hl, -⟩ := hI
    refine lv_iload hx hb d_T_outputsOf_5 (lv_at hl 4 rfl) ?_
    refine lv_iload_n hx hb d_T_outputsOf_7 rfl (lv_at hl 1 rfl) ?_
    refine k_ge (a := iv) (b := mo) (tgt := 40) hx hb rfl rfl (by omega) (by omega) d_T_outputsOf_8 (by decide) (fun c_8 => ?_) (fun c_8 => ?_)
    · obtain rfl : mo = iv := by omega
      refine lv_iload_n hx hb d_T_outputsOf_40 rfl (lv_at hl 3 rfl) ?_
      exact W.iret (v := fo (mc_outf w zer) mo 0) hx hb hr (fun t ht hW => ⟨fo (mc_outf w zer) mo 0, rfl, rfl, ht⟩) (fun q h => by cases h) d_T_outputsOf_41
    · refine lv_iload hx hb d_T_outputsOf_11 (lv_at hl 4 rfl) ?_
      refine lv_aload_n hx hb d_T_outputsOf_13 rfl (lv_at hl 2 rfl) ?_
      refine va_alen (v := 2) hx hb hK hP 0 0 rfl rfl rfl d_T_outputsOf_14 ?_
      refine k_ge (a := iv) (b := 2) (tgt := 40) hx hb rfl rfl (by omega) (by omega) d_T_outputsOf_15 (by decide) (fun c_15 => ?_) (fun c_15 => ?_)
      · exfalso; omega
      · refine lv_iload_n hx hb d_T_outputsOf_18 rfl (lv_at hl 0 rfl) ?_
        refine lv_aload_n hx hb d_T_outputsOf_19 rfl (lv_at hl 2 rfl) ?_
        refine lv_iload hx hb d_T_outputsOf_20 (lv_at hl 4 rfl) ?_
        refine k_iald (k := iv) hx hb hK hP 0 0 rfl rfl rfl (by omega) (by decide) d_T_outputsOf_22 ?_
        refine lv_iand hx hb d_T_outputsOf_23 ?_
        refine lv_if_ne (tgt := 34) hx hb d_T_outputsOf_24 (by decide) (fun c_24 => ?_) (fun c_24 => ?_)
        · refine lv_iinc (v := nI (iv + 1)) (lv' := [(4, .int (nI (iv + 1))), (0, .int w), (1, .int (nI mo)), (2, .ref (ad 5)), (3, .int (fo (mc_outf w zer) iv 0))]) hx hb d_T_outputsOf_34 hl (k := 4) rfl (k_inc _) (by decide) rfl (fun ls hl => ?_)
          refine lv_goto (tgt := 5) hx hb d_T_outputsOf_37 (by decide) ?_
          refine ihiv _ (by omega) ?_
          have e_1 : fo (mc_outf w zer) (iv + 1) 0 = fo (mc_outf w zer) iv 0 := by simp [fo_s, mc_outf, c_8, c_15, c_24]
          exact ⟨by (try rw [e_1]); exact lv_sub hl [1, 2, 3, 4, 0] rfl, trivial⟩
        · refine lv_iload_n hx hb d_T_outputsOf_27 rfl (lv_at hl 3 rfl) ?_
          refine lv_iconst (v := 1) hx hb d_T_outputsOf_28 (by decide) ?_
          refine lv_iload hx hb d_T_outputsOf_29 (lv_at hl 4 rfl) ?_
          refine lv_ishl hx hb d_T_outputsOf_31 ?_
          refine lv_ior hx hb d_T_outputsOf_32 ?_
          refine lv_istore_n (lv' := [(3, .int ((fo (mc_outf w zer) iv 0) ||| ((1 : Int32) <<< ((nI iv) &&& 31)))), (0, .int w), (1, .int (nI mo)), (2, .ref (ad 5)), (4, .int (nI iv))]) hx hb d_T_outputsOf_33 rfl hl (by decide) rfl (fun ls hl => ?_)
          refine lv_iinc (v := nI (iv + 1)) (lv' := [(4, .int (nI (iv + 1))), (3, .int ((fo (mc_outf w zer) iv 0) ||| ((1 : Int32) <<< ((nI iv) &&& 31)))), (0, .int w), (1, .int (nI mo)), (2, .ref (ad 5))]) hx hb d_T_outputsOf_34 hl (k := 4) rfl (k_inc _) (by decide) rfl (fun ls hl => ?_)
          refine lv_goto (tgt := 5) hx hb d_T_outputsOf_37 (by decide) ?_
          refine ihiv _ (by omega) ?_
          have e_2 : fo (mc_outf w zer) (iv + 1) 0 = (fo (mc_outf w zer) iv 0) ||| ((1 : Int32) <<< ((nI iv) &&& 31)) := by simp [fo_s, mc_outf, c_8, c_15, c_24]
          exact ⟨by (try rw [e_2]); exact lv_sub hl [2, 3, 4, 1, 0] rfl, trivial⟩
  · have hdone : True := trivial
    have e_3 : fo (mc_outf w zer) 0 0 = 0 := rfl
    have e_4 : nI 0 = 0 := rfl
    exact ⟨by (try rw [e_3]); (try rw [e_4]); exact lv_sub hl [2, 3, 4, 1, 0] rfl, trivial⟩
set_option maxHeartbeats 4000000 in
set_option maxRecDepth 100000 in
theorem c_placesOf (l : Launch) (dC : Nat → ClassId) (dI : Nat → Nat → Nat) (ad : Nat → Nat) (ca : Nat → ClassId) (one : Nat → Int32) (wh : Int32) : Met l y_T_placesOf w_T_placesOf ({ frames := 0, cells := 0, slots := 0, locals := 0 }) (kr_P [.ref (ad 4), .int wh] (dC, dI) vC [(ad 4, eI 2 (ca 4) one)] [(ca 4, .int)]) (vp_Sl (fun r => r = fo (mc_plf one wh) 2 0)) 0 0 (fun _ => False) := by
  refine Met.ofW (cc := b_T_placesOf) (maxL := 5) (ret := (some .long)) (by decide) rfl ?_
  intro p e s m args below meth c s₁ B hml hv
  obtain ⟨rfl, hP, hK⟩ := hv
  have hx := B.exec
  have hb := B.bytes
  have hr := B.returns
  have hts := atoms_spec (ws := w_T_placesOf) B.pre
  have hlocks := B.notSynchronized
  have hown : s.vm.findClass R_T = some m.cls := findClass_of_methodNamed B.named
  have hl := lv_entry ([.ref (ad 4), .int wh]) (n := 5) (Nat.le_of_ble_eq_true rfl)
  rw [lg_entry_eq]
  generalize (lg_sl ([.ref (ad 4), .int wh]) ++ List.replicate (5 - (lg_sl ([.ref (ad 4), .int wh])).length) Slot.unset).toArray = ls at hl ⊢
  have hl : lv_has ls 5 [(0, .ref (ad 4)), (1, .int wh)] := hl
  refine lv_lconst (v := 0) hx hb d_T_placesOf_0 rfl ?_
  refine lv_lstore_n (lv' := [(2, .long 0), (0, .ref (ad 4)), (1, .int wh)]) hx hb d_T_placesOf_1 rfl hl (by decide) rfl (fun ls hl => ?_)
  refine lv_iconst (v := 0) hx hb d_T_placesOf_2 (by decide) ?_
  refine lv_istore (lv' := [(4, .int 0), (2, .long 0), (0, .ref (ad 4)), (1, .int wh)]) hx hb d_T_placesOf_3 hl (by decide) rfl (fun ls hl => ?_)
  refine k_loopR (fun iv ls => lv_has ls 5 [(0, .ref (ad 4)), (1, .int wh), (2, .long (fo (mc_plf one wh) iv 0)), (4, .int (nI iv))] ∧ True) 2 ?_ 0 _ (Nat.zero_le _) ?_
  · intro iv ls hiiv hI ihiv
    obtain ⟨hl, -⟩ := hI
    refine lv_iload hx hb d_T_placesOf_5 (lv_at hl 3 rfl) ?_
    refine lv_aload_n hx hb d_T_placesOf_7 rfl (lv_at hl 0 rfl) ?_
    refine va_alen (v := 2) hx hb hK hP 0 0 rfl rfl rfl d_T_placesOf_8 ?_
    refine k_ge (a := iv) (b := 2) (tgt := 41) hx hb rfl rfl (by omega) (by omega) d_T_placesOf_9 (by decide) (fun c_9 => ?_) (fun c_9 => ?_)
    · obtain rfl : 2 = iv := by omega
      refine lv_lload_n hx hb d_T_placesOf_41 rfl (lv_at hl 2 rfl) ?_
      exact W.lret (v := fo (mc_plf one wh) 2 0) hx hb hr (fun t ht hW => ⟨fo (mc_plf one wh) 2 0, rfl, rfl, ht⟩) (fun q h => by cases h) d_T_placesOf_42
    · refine lv_iload_n hx hb d_T_placesOf_12 rfl (lv_at hl 1 rfl) ?_
      refine lv_iload hx hb d_T_placesOf_13 (lv_at hl 3 rfl) ?_
      refine lv_ishr hx hb d_T_placesOf_15 ?_
      refine lv_iconst (v := 1) hx hb d_T_placesOf_16 (by decide) ?_
      refine lv_iand hx hb d_T_placesOf_17 ?_
      refine lv_if_eq (tgt := 35) hx hb d_T_placesOf_18 (by decide) (fun c_18 => ?_) (fun c_18 => ?_)
      · refine lv_iinc (v := nI (iv + 1)) (lv' := [(4, .int (nI (iv + 1))), (0, .ref (ad 4)), (1, .int wh), (2, .long (fo (mc_plf one wh) iv 0))]) hx hb d_T_placesOf_35 hl (k := 3) rfl (k_inc _) (by decide) rfl (fun ls hl => ?_)
        refine lv_goto (tgt := 5) hx hb d_T_placesOf_38 (by decide) ?_
        refine ihiv _ (by omega) ?_
        have e_1 : fo (mc_plf one wh) (iv + 1) 0 = fo (mc_plf one wh) iv 0 := by simp [fo_s, mc_plf, c_9, c_18]
        exact ⟨by (try rw [e_1]); exact lv_sub hl [1, 2, 3, 0] rfl, trivial⟩
      · refine lv_lload_n hx hb d_T_placesOf_21 rfl (lv_at hl 2 rfl) ?_
        refine lv_aload_n hx hb d_T_placesOf_22 rfl (lv_at hl 0 rfl) ?_
        refine lv_iload hx hb d_T_placesOf_23 (lv_at hl 3 rfl) ?_
        refine k_iald (k := iv) hx hb hK hP 0 0 rfl rfl rfl (by omega) (by decide) d_T_placesOf_25 ?_
        refine lv_i2l hx hb d_T_placesOf_26 rfl ?_
        refine lv_bipush (v := 16) hx hb d_T_placesOf_27 (by decide) ?_
        refine lv_iload hx hb d_T_placesOf_29 (lv_at hl 3 rfl) ?_
        refine k_imul (a := 16) (b := iv) hx hb rfl rfl d_T_placesOf_31 ?_
        refine lv_lshl (v := ((one iv).toInt64) <<< ((nI (16 * iv)).toInt64 &&& 63)) hx hb d_T_placesOf_32 rfl ?_
        refine lv_lor hx hb d_T_placesOf_33 ?_
        refine lv_lstore_n (lv' := [(2, .long ((fo (mc_plf one wh) iv 0) ||| (((one iv).toInt64) <<< ((nI (16 * iv)).toInt64 &&& 63)))), (0, .ref (ad 4)), (1, .int wh), (4, .int (nI iv))]) hx hb d_T_placesOf_34 rfl hl (by decide) rfl (fun ls hl => ?_)
        refine lv_iinc (v := nI (iv + 1)) (lv' := [(4, .int (nI (iv + 1))), (2, .long ((fo (mc_plf one wh) iv 0) ||| (((one iv).toInt64) <<< ((nI (16 * iv)).toInt64 &&& 63)))), (0, .ref (ad 4)), (1, .int wh)]) hx hb d_T_placesOf_35 hl (k := 3) rfl (k_inc _) (by decide) rfl (fun ls hl => ?_)
        refine lv_goto (tgt := 5) hx hb d_T_placesOf_38 (by decide) ?_
        refine ihiv _ (by omega) ?_
        have e_2 : fo (mc_plf one wh) (iv + 1) 0 = (fo (mc_plf one wh) iv 0) ||| (((one iv).toInt64) <<< ((nI (16 * iv)).toInt64 &&& 63)) := by simp [fo_s, mc_plf, c_9, c_18]
        exact ⟨by (try rw [e_2]); exact lv_sub hl [2, 3, 1, 0] rfl, trivial⟩
  · have hdone : True := trivial
    have e_3 : fo (mc_plf one wh) 0 0 = 0 := rfl
    have e_4 : nI 0 = 0 := rfl
    exact ⟨by (try rw [e_3]); (try rw [e_4]); exact lv_sub hl [2, 3, 1, 0] rfl, trivial⟩
set_option maxHeartbeats 4000000 in
set_option maxRecDepth 100000 in
theorem c_countThinned (l : Launch) (dC : Nat → ClassId) (dI : Nat → Nat → Nat) (ad : Nat → Nat) (ca : Nat → ClassId) (cn : Nat) (hc : cn ≤ 63) (due : Int64) (lon : Int64) (num : Nat → Int32) (pla : Nat → Int64) (fm : Int32) : Met l y_T_countThinned w_T_countThinned ({ frames := 1, cells := 0, slots := 0, locals := 40 }) (kr_P [.ref (ad 2), .int fm] (dC, dI) vC [(ad 2, eT ad (nI cn) due lon), (ad 9, eI 81 (ca 9) num), (ad 13, eL 81 (ca 13) pla)] [(ca 9, .int), (ca 13, .long)]) (vp_Si (fun r => r = mc_thin num pla due cn fm)) 0 0 (fun _ => False) := by
  refine Met.ofW (cc := b_T_countThinned) (maxL := 7) (ret := (some .int)) (by decide) rfl ?_
  intro p e s m args below meth c s₁ B hml hv
  obtain ⟨rfl, hP, hK⟩ := hv
  have hx := B.exec
  have hb := B.bytes
  have hr := B.returns
  have hts := atoms_spec (ws := w_T_countThinned) B.pre
  have hlocks := B.notSynchronized
  have hown : s.vm.findClass R_T = some m.cls := findClass_of_methodNamed B.named
  have hl := lv_entry ([.ref (ad 2), .int fm]) (n := 7) (Nat.le_of_ble_eq_true rfl)
  rw [lg_entry_eq]
  generalize (lg_sl ([.ref (ad 2), .int fm]) ++ List.replicate (7 - (lg_sl ([.ref (ad 2), .int fm])).length) Slot.unset).toArray = ls at hl ⊢
  have hl : lv_has ls 7 [(0, .ref (ad 2)), (1, .int fm)] := hl
  refine lv_lconst (v := 0) hx hb d_T_countThinned_0 rfl ?_
  refine lv_lstore_n (lv' := [(2, .long 0), (0, .ref (ad 2)), (1, .int fm)]) hx hb d_T_countThinned_1 rfl hl (by decide) rfl (fun ls hl => ?_)
  refine lv_iconst (v := 0) hx hb d_T_countThinned_2 (by decide) ?_
  refine lv_istore (lv' := [(4, .int 0), (2, .long 0), (0, .ref (ad 2)), (1, .int fm)]) hx hb d_T_countThinned_3 hl (by decide) rfl (fun ls hl => ?_)
  refine k_loopR (fun iv ls => lv_has ls 7 [(0, .ref (ad 2)), (1, .int fm), (2, .long (fo (mc_thf num fm) iv 0)), (4, .int (nI iv))] ∧ True) cn ?_ 0 _ (Nat.zero_le _) ?_
  · intro iv ls hiiv hI ihiv
    obtain ⟨hl, -⟩ := hI
    refine lv_iload hx hb d_T_countThinned_5 (lv_at hl 3 rfl) ?_
    refine lv_aload_n hx hb d_T_countThinned_7 rfl (lv_at hl 0 rfl) ?_
    refine va_get (D := (dC, dI)) (ci := 0) (v := .int (nI cn)) (C := R_T) (T := F_T) (N := 10) hx hb hts (hin_of in_T) hown hK hP 0 rfl rfl 5 (by decide) (hw_of hts mw_110) (fun _ h9 => h9) rfl d_T_countThinned_8 ?_
    refine k_ge (a := iv) (b := cn) (tgt := 38) hx hb rfl rfl (by omega) (by omega) d_T_countThinned_11 (by decide) (fun c_11 => ?_) (fun c_11 => ?_)
    · obtain rfl : cn = iv := by omega
      refine lv_aload_n hx hb d_T_countThinned_38 rfl (lv_at hl 0 rfl) ?_
      refine lv_lload_n hx hb d_T_countThinned_39 rfl (lv_at hl 2 rfl) ?_
      have hPc := hP.sub (ws' := [(ad 2, eT ad (nI cn) due lon), (ad 13, eL 81 (ca 13) pla)]) [0, 2] rfl
      have hKc := hK.sub (tys' := [(ca 13, .long)]) [1] rfl
      refine vp_callSi (W.runV (As := [.long (fo (mc_thf num fm) cn 0)]) (rest := []) ⟨hx, hb, hml, hown, hts⟩ (c_isCover l dC dI ad ca cn hc due lon pla (fo (mc_thf num fm) cn 0)) (cwV 1 hts (gd_V mw_318 mw_319 mw_320 mw_42 mw_321) rfl rfl rfl (by decide +kernel) ⟨Nat.le_of_ble_eq_true rfl, Nat.le_of_ble_eq_true rfl⟩) (kr_V (q0 := 0) (ci := 0) hKc hPc rfl rfl) rfl rfl hl.1 rfl (lv_room (Nat.le_of_ble_eq_true rfl)) d_T_countThinned_40 ⟨Nat.zero_le _, Nat.zero_le _⟩) (fun r hq => ?_)
      subst hq
      refine k_bne (b := (decide (fo (mc_covf pla (fo (mc_thf num fm) cn 0)) cn 0 = due))) (tgt := 48) hx hb d_T_countThinned_43 (by decide) (fun c_43 => ?_) (fun c_43 => ?_)
      · refine lv_aload_n hx hb d_T_countThinned_48 rfl (lv_at hl 0 rfl) ?_
        refine va_get (D := (dC, dI)) (ci := 0) (v := .int (nI cn)) (C := R_T) (T := F_T) (N := 10) hx hb hts (hin_of in_T) hown hK hP 0 rfl rfl 5 (by decide) (hw_of hts mw_110) (fun _ h9 => h9) rfl d_T_countThinned_49 ?_
        refine lv_iconst (v := 1) hx hb d_T_countThinned_52 (by decide) ?_
        refine lv_isub hx hb d_T_countThinned_53 ?_
        refine lv_istore (lv' := [(4, .int ((nI cn) - 1)), (0, .ref (ad 2)), (1, .int fm), (2, .long (fo (mc_thf num fm) cn 0))]) hx hb d_T_countThinned_54 hl (by decide) rfl (fun ls hl => ?_)
        refine k_loopR (fun kv ls => lv_has ls 7 [(0, .ref (ad 2)), (1, .int fm), (2, .long (fo (mc_th2f pla due cn) kv (fo (mc_thf num fm) cn 0))), (4, .int (nI (cn - kv) - 1))] ∧ True) cn ?_ 0 _ (Nat.zero_le _) ?_
        · intro kv ls hikv hI ihkv
          obtain ⟨hl, -⟩ := hI
          refine lv_iload hx hb d_T_countThinned_56 (lv_at hl 3 rfl) ?_
          refine lv_if_lt (tgt := 98) hx hb d_T_countThinned_58 (by decide) (fun c_58 => ?_) (fun c_58 => ?_)
          · obtain rfl : cn = kv := (th_neg hc hikv).mp c_58
            refine lv_lload_n hx hb d_T_countThinned_98 rfl (lv_at hl 2 rfl) ?_
            have hPc := hP.sub (ws' := []) [] rfl
            have hKc := hK.sub (tys' := []) [] rfl
            refine vp_callSi (W.runS (As := [.long (fo (mc_th2f pla due cn) cn (fo (mc_thf num fm) cn 0))]) (rest := []) ⟨hx, hb, hml, hown, hts⟩ (c_bitCount l dC dI ad ca (fo (mc_th2f pla due cn) cn (fo (mc_thf num fm) cn 0))) (va_cwS 1 hts (gd_S mw_322 mw_297 mw_51 mw_298) rfl rfl rfl (by decide +kernel) ⟨Nat.le_of_ble_eq_true rfl, Nat.le_of_ble_eq_true rfl⟩) (kr_S hKc hPc) rfl rfl hl.1 rfl (lv_room (Nat.le_of_ble_eq_true rfl)) d_T_countThinned_99 ⟨Nat.zero_le _, Nat.zero_le _⟩) (fun r hq => ?_)
            subst hq
            exact W.iret (v := m_pop (fo (mc_th2f pla due cn) cn (fo (mc_thf num fm) cn 0))) hx hb hr (fun t ht hW => ⟨m_pop (fo (mc_th2f pla due cn) cn (fo (mc_thf num fm) cn 0)), rfl, by unfold mc_thin; rw [if_pos c_43], ht⟩) (fun q h => by cases h) d_T_countThinned_102
          · have hkv : kv < cn := Nat.lt_of_le_of_ne hikv (fun h => c_58 ((th_neg hc hikv).mpr h.symm))
            rw [th_idx hkv] at hl
            refine lv_lload_n hx hb d_T_countThinned_61 rfl (lv_at hl 2 rfl) ?_
            refine lv_lconst (v := 1) hx hb d_T_countThinned_62 rfl ?_
            refine lv_iload hx hb d_T_countThinned_63 (lv_at hl 3 rfl) ?_
            refine lv_lshl (v := zo (cn - 1 - kv)) hx hb d_T_countThinned_65 rfl ?_
            refine lv_ldc2 hx hb hown (hw_of hts mw_242) d_T_countThinned_66 ?_
            refine lv_lxor hx hb d_T_countThinned_69 ?_
            refine lv_land hx hb d_T_countThinned_70 ?_
            refine lv_lstore (lv' := [(5, .long ((fo (mc_th2f pla due cn) kv (fo (mc_thf num fm) cn 0)) &&& ((zo (cn - 1 - kv)) ^^^ (-1)))), (0, .ref (ad 2)), (1, .int fm), (2, .long (fo (mc_th2f pla due cn) kv (fo (mc_thf num fm) cn 0))), (4, .int (nI (cn - 1 - kv)))]) hx hb d_T_countThinned_71 hl (by decide) rfl (fun ls hl => ?_)
            refine lv_lload hx hb d_T_countThinned_73 (lv_at hl 0 rfl) ?_
            refine lv_lload_n hx hb d_T_countThinned_75 rfl (lv_at hl 3 rfl) ?_
            refine k_leq (tgt := 92) hx hb d_T_countThinned_76 d_T_countThinned_77 (by decide) (fun c_76 => ?_) (fun c_76 => ?_)
            · refine lv_iinc (v := (nI (cn - 1 - kv)) + (-1)) (lv' := [(4, .int ((nI (cn - 1 - kv)) + (-1))), (5, .long ((fo (mc_th2f pla due cn) kv (fo (mc_thf num fm) cn 0)) &&& ((zo (cn - 1 - kv)) ^^^ (-1)))), (0, .ref (ad 2)), (1, .int fm), (2, .long (fo (mc_th2f pla due cn) kv (fo (mc_thf num fm) cn 0)))]) hx hb d_T_countThinned_92 hl (k := 4) rfl rfl (by decide) rfl (fun ls hl => ?_)
              refine lv_goto (tgt := 56) hx hb d_T_countThinned_95 (by decide) ?_
              refine ihkv _ (by omega) ?_
              have e_1 : fo (mc_th2f pla due cn) (kv + 1) (fo (mc_thf num fm) cn 0) = fo (mc_th2f pla due cn) kv (fo (mc_thf num fm) cn 0) := by rw [fo_s]; (first | rfl | exact if_pos c_11 | exact if_neg c_11 | exact if_neg (by rw [c_11]; decide) | exact if_pos c_43 | exact if_neg c_43 | exact if_neg (by rw [c_43]; decide) | exact if_pos c_58 | exact if_neg c_58 | exact if_neg (by rw [c_58]; decide) | exact if_pos hkv | exact if_neg hkv | exact if_neg (by rw [hkv]; decide) | exact if_pos c_76 | exact if_neg c_76 | exact if_neg (by rw [c_76]; decide) | exact (if_neg c_11).trans (if_pos c_43) | exact (if_neg c_11).trans (if_neg c_43) | exact (if_neg c_11).trans (if_neg (by rw [c_43]; decide)) | exact (if_neg (by rw [c_11]; decide)).trans (if_pos c_43) | exact (if_neg (by rw [c_11]; decide)).trans (if_neg c_43) | exact (if_neg (by rw [c_11]; decide)).trans (if_neg (by rw [c_43]; decide)) | exact (if_neg c_11).trans (if_pos c_58) | exact (if_neg c_11).trans (if_neg c_58) | exact (if_neg c_11).trans (if_neg (by rw [c_58]; decide)) | exact (if_neg (by rw [c_11]; decide)).trans (if_pos c_58) | exact (if_neg (by rw [c_11]; decide)).trans (if_neg c_58) | exact (if_neg (by rw [c_11]; decide)).trans (if_neg (by rw [c_58]; decide)) | exact (if_neg c_11).trans (if_pos hkv) | exact (if_neg c_11).trans (if_neg hkv) | exact (if_neg c_11).trans (if_neg (by rw [hkv]; decide)) | exact (if_neg (by rw [c_11]; decide)).trans (if_pos hkv) | exact (if_neg (by rw [c_11]; decide)).trans (if_neg hkv) | exact (if_neg (by rw [c_11]; decide)).trans (if_neg (by rw [hkv]; decide)) | exact (if_neg c_11).trans (if_pos c_76) | exact (if_neg c_11).trans (if_neg c_76) | exact (if_neg c_11).trans (if_neg (by rw [c_76]; decide)) | exact (if_neg (by rw [c_11]; decide)).trans (if_pos c_76) | exact (if_neg (by rw [c_11]; decide)).trans (if_neg c_76) | exact (if_neg (by rw [c_11]; decide)).trans (if_neg (by rw [c_76]; decide)) | exact (if_neg c_43).trans (if_pos c_11) | exact (if_neg c_43).trans (if_neg c_11) | exact (if_neg c_43).trans (if_neg (by rw [c_11]; decide)) | exact (if_neg (by rw [c_43]; decide)).trans (if_pos c_11) | exact (if_neg (by rw [c_43]; decide)).trans (if_neg c_11) | exact (if_neg (by rw [c_43]; decide)).trans (if_neg (by rw [c_11]; decide)) | exact (if_neg c_43).trans (if_pos c_58) | exact (if_neg c_43).trans (if_neg c_58) | exact (if_neg c_43).trans (if_neg (by rw [c_58]; decide)) | exact (if_neg (by rw [c_43]; decide)).trans (if_pos c_58) | exact (if_neg (by rw [c_43]; decide)).trans (if_neg c_58) | exact (if_neg (by rw [c_43]; decide)).trans (if_neg (by rw [c_58]; decide)) | exact (if_neg c_43).trans (if_pos hkv) | exact (if_neg c_43).trans (if_neg hkv) | exact (if_neg c_43).trans (if_neg (by rw [hkv]; decide)) | exact (if_neg (by rw [c_43]; decide)).trans (if_pos hkv) | exact (if_neg (by rw [c_43]; decide)).trans (if_neg hkv) | exact (if_neg (by rw [c_43]; decide)).trans (if_neg (by rw [hkv]; decide)) | exact (if_neg c_43).trans (if_pos c_76) | exact (if_neg c_43).trans (if_neg c_76) | exact (if_neg c_43).trans (if_neg (by rw [c_76]; decide)) | exact (if_neg (by rw [c_43]; decide)).trans (if_pos c_76) | exact (if_neg (by rw [c_43]; decide)).trans (if_neg c_76) | exact (if_neg (by rw [c_43]; decide)).trans (if_neg (by rw [c_76]; decide)) | exact (if_neg c_58).trans (if_pos c_11) | exact (if_neg c_58).trans (if_neg c_11) | exact (if_neg c_58).trans (if_neg (by rw [c_11]; decide)) | exact (if_neg (by rw [c_58]; decide)).trans (if_pos c_11) | exact (if_neg (by rw [c_58]; decide)).trans (if_neg c_11) | exact (if_neg (by rw [c_58]; decide)).trans (if_neg (by rw [c_11]; decide)) | exact (if_neg c_58).trans (if_pos c_43) | exact (if_neg c_58).trans (if_neg c_43) | exact (if_neg c_58).trans (if_neg (by rw [c_43]; decide)) | exact (if_neg (by rw [c_58]; decide)).trans (if_pos c_43) | exact (if_neg (by rw [c_58]; decide)).trans (if_neg c_43) | exact (if_neg (by rw [c_58]; decide)).trans (if_neg (by rw [c_43]; decide)) | exact (if_neg c_58).trans (if_pos hkv) | exact (if_neg c_58).trans (if_neg hkv) | exact (if_neg c_58).trans (if_neg (by rw [hkv]; decide)) | exact (if_neg (by rw [c_58]; decide)).trans (if_pos hkv) | exact (if_neg (by rw [c_58]; decide)).trans (if_neg hkv) | exact (if_neg (by rw [c_58]; decide)).trans (if_neg (by rw [hkv]; decide)) | exact (if_neg c_58).trans (if_pos c_76) | exact (if_neg c_58).trans (if_neg c_76) | exact (if_neg c_58).trans (if_neg (by rw [c_76]; decide)) | exact (if_neg (by rw [c_58]; decide)).trans (if_pos c_76) | exact (if_neg (by rw [c_58]; decide)).trans (if_neg c_76) | exact (if_neg (by rw [c_58]; decide)).trans (if_neg (by rw [c_76]; decide)) | exact (if_neg hkv).trans (if_pos c_11) | exact (if_neg hkv).trans (if_neg c_11) | exact (if_neg hkv).trans (if_neg (by rw [c_11]; decide)) | exact (if_neg (by rw [hkv]; decide)).trans (if_pos c_11) | exact (if_neg (by rw [hkv]; decide)).trans (if_neg c_11) | exact (if_neg (by rw [hkv]; decide)).trans (if_neg (by rw [c_11]; decide)) | exact (if_neg hkv).trans (if_pos c_43) | exact (if_neg hkv).trans (if_neg c_43) | exact (if_neg hkv).trans (if_neg (by rw [c_43]; decide)) | exact (if_neg (by rw [hkv]; decide)).trans (if_pos c_43) | exact (if_neg (by rw [hkv]; decide)).trans (if_neg c_43) | exact (if_neg (by rw [hkv]; decide)).trans (if_neg (by rw [c_43]; decide)) | exact (if_neg hkv).trans (if_pos c_58) | exact (if_neg hkv).trans (if_neg c_58) | exact (if_neg hkv).trans (if_neg (by rw [c_58]; decide)) | exact (if_neg (by rw [hkv]; decide)).trans (if_pos c_58) | exact (if_neg (by rw [hkv]; decide)).trans (if_neg c_58) | exact (if_neg (by rw [hkv]; decide)).trans (if_neg (by rw [c_58]; decide)) | exact (if_neg hkv).trans (if_pos c_76) | exact (if_neg hkv).trans (if_neg c_76) | exact (if_neg hkv).trans (if_neg (by rw [c_76]; decide)) | exact (if_neg (by rw [hkv]; decide)).trans (if_pos c_76) | exact (if_neg (by rw [hkv]; decide)).trans (if_neg c_76) | exact (if_neg (by rw [hkv]; decide)).trans (if_neg (by rw [c_76]; decide)) | exact (if_neg c_76).trans (if_pos c_11) | exact (if_neg c_76).trans (if_neg c_11) | exact (if_neg c_76).trans (if_neg (by rw [c_11]; decide)) | exact (if_neg (by rw [c_76]; decide)).trans (if_pos c_11) | exact (if_neg (by rw [c_76]; decide)).trans (if_neg c_11) | exact (if_neg (by rw [c_76]; decide)).trans (if_neg (by rw [c_11]; decide)) | exact (if_neg c_76).trans (if_pos c_43) | exact (if_neg c_76).trans (if_neg c_43) | exact (if_neg c_76).trans (if_neg (by rw [c_43]; decide)) | exact (if_neg (by rw [c_76]; decide)).trans (if_pos c_43) | exact (if_neg (by rw [c_76]; decide)).trans (if_neg c_43) | exact (if_neg (by rw [c_76]; decide)).trans (if_neg (by rw [c_43]; decide)) | exact (if_neg c_76).trans (if_pos c_58) | exact (if_neg c_76).trans (if_neg c_58) | exact (if_neg c_76).trans (if_neg (by rw [c_58]; decide)) | exact (if_neg (by rw [c_76]; decide)).trans (if_pos c_58) | exact (if_neg (by rw [c_76]; decide)).trans (if_neg c_58) | exact (if_neg (by rw [c_76]; decide)).trans (if_neg (by rw [c_58]; decide)) | exact (if_neg c_76).trans (if_pos hkv) | exact (if_neg c_76).trans (if_neg hkv) | exact (if_neg c_76).trans (if_neg (by rw [hkv]; decide)) | exact (if_neg (by rw [c_76]; decide)).trans (if_pos hkv) | exact (if_neg (by rw [c_76]; decide)).trans (if_neg hkv) | exact (if_neg (by rw [c_76]; decide)).trans (if_neg (by rw [hkv]; decide)))
              have e_2 : nI (cn - (kv + 1)) - 1 = (nI (cn - 1 - kv)) + (-1) := by rw [Int32.sub_eq_add_neg, show cn - (kv + 1) = cn - 1 - kv by omega]
              exact ⟨by (try rw [e_1]); (try rw [e_2]); exact lv_sub hl [2, 3, 4, 0] rfl, trivial⟩
            · refine lv_aload_n hx hb d_T_countThinned_80 rfl (lv_at hl 1 rfl) ?_
              refine lv_lload hx hb d_T_countThinned_81 (lv_at hl 0 rfl) ?_
              have hPc := hP.sub (ws' := [(ad 2, eT ad (nI cn) due lon), (ad 13, eL 81 (ca 13) pla)]) [0, 2] rfl
              have hKc := hK.sub (tys' := [(ca 13, .long)]) [1] rfl
              refine vp_callSi (W.runV (As := [.long ((fo (mc_th2f pla due cn) kv (fo (mc_thf num fm) cn 0)) &&& ((zo (cn - 1 - kv)) ^^^ (-1)))]) (rest := []) ⟨hx, hb, hml, hown, hts⟩ (c_isCover l dC dI ad ca cn hc due lon pla ((fo (mc_th2f pla due cn) kv (fo (mc_thf num fm) cn 0)) &&& ((zo (cn - 1 - kv)) ^^^ (-1)))) (cwV 1 hts (gd_V mw_318 mw_319 mw_320 mw_42 mw_321) rfl rfl rfl (by decide +kernel) ⟨Nat.le_of_ble_eq_true rfl, Nat.le_of_ble_eq_true rfl⟩) (kr_V (q0 := 0) (ci := 0) hKc hPc rfl rfl) rfl rfl hl.1 rfl (lv_room (Nat.le_of_ble_eq_true rfl)) d_T_countThinned_83 ⟨Nat.zero_le _, Nat.zero_le _⟩) (fun r hq => ?_)
              subst hq
              refine k_beq (b := (decide (fo (mc_covf pla ((fo (mc_th2f pla due cn) kv (fo (mc_thf num fm) cn 0)) &&& ((zo (cn - 1 - kv)) ^^^ (-1)))) cn 0 = due))) (tgt := 92) hx hb d_T_countThinned_86 (by decide) (fun c_86 => ?_) (fun c_86 => ?_)
              · refine lv_iinc (v := (nI (cn - 1 - kv)) + (-1)) (lv' := [(4, .int ((nI (cn - 1 - kv)) + (-1))), (5, .long ((fo (mc_th2f pla due cn) kv (fo (mc_thf num fm) cn 0)) &&& ((zo (cn - 1 - kv)) ^^^ (-1)))), (0, .ref (ad 2)), (1, .int fm), (2, .long (fo (mc_th2f pla due cn) kv (fo (mc_thf num fm) cn 0)))]) hx hb d_T_countThinned_92 hl (k := 4) rfl rfl (by decide) rfl (fun ls hl => ?_)
                refine lv_goto (tgt := 56) hx hb d_T_countThinned_95 (by decide) ?_
                refine ihkv _ (by omega) ?_
                have e_3 : fo (mc_th2f pla due cn) (kv + 1) (fo (mc_thf num fm) cn 0) = fo (mc_th2f pla due cn) kv (fo (mc_thf num fm) cn 0) := by rw [fo_s]; (first | rfl | exact if_pos c_11 | exact if_neg c_11 | exact if_neg (by rw [c_11]; decide) | exact if_pos c_43 | exact if_neg c_43 | exact if_neg (by rw [c_43]; decide) | exact if_pos c_58 | exact if_neg c_58 | exact if_neg (by rw [c_58]; decide) | exact if_pos hkv | exact if_neg hkv | exact if_neg (by rw [hkv]; decide) | exact if_pos c_76 | exact if_neg c_76 | exact if_neg (by rw [c_76]; decide) | exact if_pos c_86 | exact if_neg c_86 | exact if_neg (by rw [c_86]; decide) | exact (if_neg c_11).trans (if_pos c_43) | exact (if_neg c_11).trans (if_neg c_43) | exact (if_neg c_11).trans (if_neg (by rw [c_43]; decide)) | exact (if_neg (by rw [c_11]; decide)).trans (if_pos c_43) | exact (if_neg (by rw [c_11]; decide)).trans (if_neg c_43) | exact (if_neg (by rw [c_11]; decide)).trans (if_neg (by rw [c_43]; decide)) | exact (if_neg c_11).trans (if_pos c_58) | exact (if_neg c_11).trans (if_neg c_58) | exact (if_neg c_11).trans (if_neg (by rw [c_58]; decide)) | exact (if_neg (by rw [c_11]; decide)).trans (if_pos c_58) | exact (if_neg (by rw [c_11]; decide)).trans (if_neg c_58) | exact (if_neg (by rw [c_11]; decide)).trans (if_neg (by rw [c_58]; decide)) | exact (if_neg c_11).trans (if_pos hkv) | exact (if_neg c_11).trans (if_neg hkv) | exact (if_neg c_11).trans (if_neg (by rw [hkv]; decide)) | exact (if_neg (by rw [c_11]; decide)).trans (if_pos hkv) | exact (if_neg (by rw [c_11]; decide)).trans (if_neg hkv) | exact (if_neg (by rw [c_11]; decide)).trans (if_neg (by rw [hkv]; decide)) | exact (if_neg c_11).trans (if_pos c_76) | exact (if_neg c_11).trans (if_neg c_76) | exact (if_neg c_11).trans (if_neg (by rw [c_76]; decide)) | exact (if_neg (by rw [c_11]; decide)).trans (if_pos c_76) | exact (if_neg (by rw [c_11]; decide)).trans (if_neg c_76) | exact (if_neg (by rw [c_11]; decide)).trans (if_neg (by rw [c_76]; decide)) | exact (if_neg c_11).trans (if_pos c_86) | exact (if_neg c_11).trans (if_neg c_86) | exact (if_neg c_11).trans (if_neg (by rw [c_86]; decide)) | exact (if_neg (by rw [c_11]; decide)).trans (if_pos c_86) | exact (if_neg (by rw [c_11]; decide)).trans (if_neg c_86) | exact (if_neg (by rw [c_11]; decide)).trans (if_neg (by rw [c_86]; decide)) | exact (if_neg c_43).trans (if_pos c_11) | exact (if_neg c_43).trans (if_neg c_11) | exact (if_neg c_43).trans (if_neg (by rw [c_11]; decide)) | exact (if_neg (by rw [c_43]; decide)).trans (if_pos c_11) | exact (if_neg (by rw [c_43]; decide)).trans (if_neg c_11) | exact (if_neg (by rw [c_43]; decide)).trans (if_neg (by rw [c_11]; decide)) | exact (if_neg c_43).trans (if_pos c_58) | exact (if_neg c_43).trans (if_neg c_58) | exact (if_neg c_43).trans (if_neg (by rw [c_58]; decide)) | exact (if_neg (by rw [c_43]; decide)).trans (if_pos c_58) | exact (if_neg (by rw [c_43]; decide)).trans (if_neg c_58) | exact (if_neg (by rw [c_43]; decide)).trans (if_neg (by rw [c_58]; decide)) | exact (if_neg c_43).trans (if_pos hkv) | exact (if_neg c_43).trans (if_neg hkv) | exact (if_neg c_43).trans (if_neg (by rw [hkv]; decide)) | exact (if_neg (by rw [c_43]; decide)).trans (if_pos hkv) | exact (if_neg (by rw [c_43]; decide)).trans (if_neg hkv) | exact (if_neg (by rw [c_43]; decide)).trans (if_neg (by rw [hkv]; decide)) | exact (if_neg c_43).trans (if_pos c_76) | exact (if_neg c_43).trans (if_neg c_76) | exact (if_neg c_43).trans (if_neg (by rw [c_76]; decide)) | exact (if_neg (by rw [c_43]; decide)).trans (if_pos c_76) | exact (if_neg (by rw [c_43]; decide)).trans (if_neg c_76) | exact (if_neg (by rw [c_43]; decide)).trans (if_neg (by rw [c_76]; decide)) | exact (if_neg c_43).trans (if_pos c_86) | exact (if_neg c_43).trans (if_neg c_86) | exact (if_neg c_43).trans (if_neg (by rw [c_86]; decide)) | exact (if_neg (by rw [c_43]; decide)).trans (if_pos c_86) | exact (if_neg (by rw [c_43]; decide)).trans (if_neg c_86) | exact (if_neg (by rw [c_43]; decide)).trans (if_neg (by rw [c_86]; decide)) | exact (if_neg c_58).trans (if_pos c_11) | exact (if_neg c_58).trans (if_neg c_11) | exact (if_neg c_58).trans (if_neg (by rw [c_11]; decide)) | exact (if_neg (by rw [c_58]; decide)).trans (if_pos c_11) | exact (if_neg (by rw [c_58]; decide)).trans (if_neg c_11) | exact (if_neg (by rw [c_58]; decide)).trans (if_neg (by rw [c_11]; decide)) | exact (if_neg c_58).trans (if_pos c_43) | exact (if_neg c_58).trans (if_neg c_43) | exact (if_neg c_58).trans (if_neg (by rw [c_43]; decide)) | exact (if_neg (by rw [c_58]; decide)).trans (if_pos c_43) | exact (if_neg (by rw [c_58]; decide)).trans (if_neg c_43) | exact (if_neg (by rw [c_58]; decide)).trans (if_neg (by rw [c_43]; decide)) | exact (if_neg c_58).trans (if_pos hkv) | exact (if_neg c_58).trans (if_neg hkv) | exact (if_neg c_58).trans (if_neg (by rw [hkv]; decide)) | exact (if_neg (by rw [c_58]; decide)).trans (if_pos hkv) | exact (if_neg (by rw [c_58]; decide)).trans (if_neg hkv) | exact (if_neg (by rw [c_58]; decide)).trans (if_neg (by rw [hkv]; decide)) | exact (if_neg c_58).trans (if_pos c_76) | exact (if_neg c_58).trans (if_neg c_76) | exact (if_neg c_58).trans (if_neg (by rw [c_76]; decide)) | exact (if_neg (by rw [c_58]; decide)).trans (if_pos c_76) | exact (if_neg (by rw [c_58]; decide)).trans (if_neg c_76) | exact (if_neg (by rw [c_58]; decide)).trans (if_neg (by rw [c_76]; decide)) | exact (if_neg c_58).trans (if_pos c_86) | exact (if_neg c_58).trans (if_neg c_86) | exact (if_neg c_58).trans (if_neg (by rw [c_86]; decide)) | exact (if_neg (by rw [c_58]; decide)).trans (if_pos c_86) | exact (if_neg (by rw [c_58]; decide)).trans (if_neg c_86) | exact (if_neg (by rw [c_58]; decide)).trans (if_neg (by rw [c_86]; decide)) | exact (if_neg hkv).trans (if_pos c_11) | exact (if_neg hkv).trans (if_neg c_11) | exact (if_neg hkv).trans (if_neg (by rw [c_11]; decide)) | exact (if_neg (by rw [hkv]; decide)).trans (if_pos c_11) | exact (if_neg (by rw [hkv]; decide)).trans (if_neg c_11) | exact (if_neg (by rw [hkv]; decide)).trans (if_neg (by rw [c_11]; decide)) | exact (if_neg hkv).trans (if_pos c_43) | exact (if_neg hkv).trans (if_neg c_43) | exact (if_neg hkv).trans (if_neg (by rw [c_43]; decide)) | exact (if_neg (by rw [hkv]; decide)).trans (if_pos c_43) | exact (if_neg (by rw [hkv]; decide)).trans (if_neg c_43) | exact (if_neg (by rw [hkv]; decide)).trans (if_neg (by rw [c_43]; decide)) | exact (if_neg hkv).trans (if_pos c_58) | exact (if_neg hkv).trans (if_neg c_58) | exact (if_neg hkv).trans (if_neg (by rw [c_58]; decide)) | exact (if_neg (by rw [hkv]; decide)).trans (if_pos c_58) | exact (if_neg (by rw [hkv]; decide)).trans (if_neg c_58) | exact (if_neg (by rw [hkv]; decide)).trans (if_neg (by rw [c_58]; decide)) | exact (if_neg hkv).trans (if_pos c_76) | exact (if_neg hkv).trans (if_neg c_76) | exact (if_neg hkv).trans (if_neg (by rw [c_76]; decide)) | exact (if_neg (by rw [hkv]; decide)).trans (if_pos c_76) | exact (if_neg (by rw [hkv]; decide)).trans (if_neg c_76) | exact (if_neg (by rw [hkv]; decide)).trans (if_neg (by rw [c_76]; decide)) | exact (if_neg hkv).trans (if_pos c_86) | exact (if_neg hkv).trans (if_neg c_86) | exact (if_neg hkv).trans (if_neg (by rw [c_86]; decide)) | exact (if_neg (by rw [hkv]; decide)).trans (if_pos c_86) | exact (if_neg (by rw [hkv]; decide)).trans (if_neg c_86) | exact (if_neg (by rw [hkv]; decide)).trans (if_neg (by rw [c_86]; decide)) | exact (if_neg c_76).trans (if_pos c_11) | exact (if_neg c_76).trans (if_neg c_11) | exact (if_neg c_76).trans (if_neg (by rw [c_11]; decide)) | exact (if_neg (by rw [c_76]; decide)).trans (if_pos c_11) | exact (if_neg (by rw [c_76]; decide)).trans (if_neg c_11) | exact (if_neg (by rw [c_76]; decide)).trans (if_neg (by rw [c_11]; decide)) | exact (if_neg c_76).trans (if_pos c_43) | exact (if_neg c_76).trans (if_neg c_43) | exact (if_neg c_76).trans (if_neg (by rw [c_43]; decide)) | exact (if_neg (by rw [c_76]; decide)).trans (if_pos c_43) | exact (if_neg (by rw [c_76]; decide)).trans (if_neg c_43) | exact (if_neg (by rw [c_76]; decide)).trans (if_neg (by rw [c_43]; decide)) | exact (if_neg c_76).trans (if_pos c_58) | exact (if_neg c_76).trans (if_neg c_58) | exact (if_neg c_76).trans (if_neg (by rw [c_58]; decide)) | exact (if_neg (by rw [c_76]; decide)).trans (if_pos c_58) | exact (if_neg (by rw [c_76]; decide)).trans (if_neg c_58) | exact (if_neg (by rw [c_76]; decide)).trans (if_neg (by rw [c_58]; decide)) | exact (if_neg c_76).trans (if_pos hkv) | exact (if_neg c_76).trans (if_neg hkv) | exact (if_neg c_76).trans (if_neg (by rw [hkv]; decide)) | exact (if_neg (by rw [c_76]; decide)).trans (if_pos hkv) | exact (if_neg (by rw [c_76]; decide)).trans (if_neg hkv) | exact (if_neg (by rw [c_76]; decide)).trans (if_neg (by rw [hkv]; decide)) | exact (if_neg c_76).trans (if_pos c_86) | exact (if_neg c_76).trans (if_neg c_86) | exact (if_neg c_76).trans (if_neg (by rw [c_86]; decide)) | exact (if_neg (by rw [c_76]; decide)).trans (if_pos c_86) | exact (if_neg (by rw [c_76]; decide)).trans (if_neg c_86) | exact (if_neg (by rw [c_76]; decide)).trans (if_neg (by rw [c_86]; decide)) | exact (if_neg c_86).trans (if_pos c_11) | exact (if_neg c_86).trans (if_neg c_11) | exact (if_neg c_86).trans (if_neg (by rw [c_11]; decide)) | exact (if_neg (by rw [c_86]; decide)).trans (if_pos c_11) | exact (if_neg (by rw [c_86]; decide)).trans (if_neg c_11) | exact (if_neg (by rw [c_86]; decide)).trans (if_neg (by rw [c_11]; decide)) | exact (if_neg c_86).trans (if_pos c_43) | exact (if_neg c_86).trans (if_neg c_43) | exact (if_neg c_86).trans (if_neg (by rw [c_43]; decide)) | exact (if_neg (by rw [c_86]; decide)).trans (if_pos c_43) | exact (if_neg (by rw [c_86]; decide)).trans (if_neg c_43) | exact (if_neg (by rw [c_86]; decide)).trans (if_neg (by rw [c_43]; decide)) | exact (if_neg c_86).trans (if_pos c_58) | exact (if_neg c_86).trans (if_neg c_58) | exact (if_neg c_86).trans (if_neg (by rw [c_58]; decide)) | exact (if_neg (by rw [c_86]; decide)).trans (if_pos c_58) | exact (if_neg (by rw [c_86]; decide)).trans (if_neg c_58) | exact (if_neg (by rw [c_86]; decide)).trans (if_neg (by rw [c_58]; decide)) | exact (if_neg c_86).trans (if_pos hkv) | exact (if_neg c_86).trans (if_neg hkv) | exact (if_neg c_86).trans (if_neg (by rw [hkv]; decide)) | exact (if_neg (by rw [c_86]; decide)).trans (if_pos hkv) | exact (if_neg (by rw [c_86]; decide)).trans (if_neg hkv) | exact (if_neg (by rw [c_86]; decide)).trans (if_neg (by rw [hkv]; decide)) | exact (if_neg c_86).trans (if_pos c_76) | exact (if_neg c_86).trans (if_neg c_76) | exact (if_neg c_86).trans (if_neg (by rw [c_76]; decide)) | exact (if_neg (by rw [c_86]; decide)).trans (if_pos c_76) | exact (if_neg (by rw [c_86]; decide)).trans (if_neg c_76) | exact (if_neg (by rw [c_86]; decide)).trans (if_neg (by rw [c_76]; decide)))
                have e_4 : nI (cn - (kv + 1)) - 1 = (nI (cn - 1 - kv)) + (-1) := by rw [Int32.sub_eq_add_neg, show cn - (kv + 1) = cn - 1 - kv by omega]
                exact ⟨by (try rw [e_3]); (try rw [e_4]); exact lv_sub hl [2, 3, 4, 0] rfl, trivial⟩
              · refine lv_lload hx hb d_T_countThinned_89 (lv_at hl 0 rfl) ?_
                refine lv_lstore_n (lv' := [(2, .long ((fo (mc_th2f pla due cn) kv (fo (mc_thf num fm) cn 0)) &&& ((zo (cn - 1 - kv)) ^^^ (-1)))), (5, .long ((fo (mc_th2f pla due cn) kv (fo (mc_thf num fm) cn 0)) &&& ((zo (cn - 1 - kv)) ^^^ (-1)))), (0, .ref (ad 2)), (1, .int fm), (4, .int (nI (cn - 1 - kv)))]) hx hb d_T_countThinned_91 rfl hl (by decide) rfl (fun ls hl => ?_)
                refine lv_iinc (v := (nI (cn - 1 - kv)) + (-1)) (lv' := [(4, .int ((nI (cn - 1 - kv)) + (-1))), (2, .long ((fo (mc_th2f pla due cn) kv (fo (mc_thf num fm) cn 0)) &&& ((zo (cn - 1 - kv)) ^^^ (-1)))), (5, .long ((fo (mc_th2f pla due cn) kv (fo (mc_thf num fm) cn 0)) &&& ((zo (cn - 1 - kv)) ^^^ (-1)))), (0, .ref (ad 2)), (1, .int fm)]) hx hb d_T_countThinned_92 hl (k := 4) rfl rfl (by decide) rfl (fun ls hl => ?_)
                refine lv_goto (tgt := 56) hx hb d_T_countThinned_95 (by decide) ?_
                refine ihkv _ (by omega) ?_
                have e_5 : fo (mc_th2f pla due cn) (kv + 1) (fo (mc_thf num fm) cn 0) = (fo (mc_th2f pla due cn) kv (fo (mc_thf num fm) cn 0)) &&& ((zo (cn - 1 - kv)) ^^^ (-1)) := by rw [fo_s]; (first | rfl | exact if_pos c_11 | exact if_neg c_11 | exact if_neg (by rw [c_11]; decide) | exact if_pos c_43 | exact if_neg c_43 | exact if_neg (by rw [c_43]; decide) | exact if_pos c_58 | exact if_neg c_58 | exact if_neg (by rw [c_58]; decide) | exact if_pos hkv | exact if_neg hkv | exact if_neg (by rw [hkv]; decide) | exact if_pos c_76 | exact if_neg c_76 | exact if_neg (by rw [c_76]; decide) | exact if_pos c_86 | exact if_neg c_86 | exact if_neg (by rw [c_86]; decide) | exact (if_neg c_11).trans (if_pos c_43) | exact (if_neg c_11).trans (if_neg c_43) | exact (if_neg c_11).trans (if_neg (by rw [c_43]; decide)) | exact (if_neg (by rw [c_11]; decide)).trans (if_pos c_43) | exact (if_neg (by rw [c_11]; decide)).trans (if_neg c_43) | exact (if_neg (by rw [c_11]; decide)).trans (if_neg (by rw [c_43]; decide)) | exact (if_neg c_11).trans (if_pos c_58) | exact (if_neg c_11).trans (if_neg c_58) | exact (if_neg c_11).trans (if_neg (by rw [c_58]; decide)) | exact (if_neg (by rw [c_11]; decide)).trans (if_pos c_58) | exact (if_neg (by rw [c_11]; decide)).trans (if_neg c_58) | exact (if_neg (by rw [c_11]; decide)).trans (if_neg (by rw [c_58]; decide)) | exact (if_neg c_11).trans (if_pos hkv) | exact (if_neg c_11).trans (if_neg hkv) | exact (if_neg c_11).trans (if_neg (by rw [hkv]; decide)) | exact (if_neg (by rw [c_11]; decide)).trans (if_pos hkv) | exact (if_neg (by rw [c_11]; decide)).trans (if_neg hkv) | exact (if_neg (by rw [c_11]; decide)).trans (if_neg (by rw [hkv]; decide)) | exact (if_neg c_11).trans (if_pos c_76) | exact (if_neg c_11).trans (if_neg c_76) | exact (if_neg c_11).trans (if_neg (by rw [c_76]; decide)) | exact (if_neg (by rw [c_11]; decide)).trans (if_pos c_76) | exact (if_neg (by rw [c_11]; decide)).trans (if_neg c_76) | exact (if_neg (by rw [c_11]; decide)).trans (if_neg (by rw [c_76]; decide)) | exact (if_neg c_11).trans (if_pos c_86) | exact (if_neg c_11).trans (if_neg c_86) | exact (if_neg c_11).trans (if_neg (by rw [c_86]; decide)) | exact (if_neg (by rw [c_11]; decide)).trans (if_pos c_86) | exact (if_neg (by rw [c_11]; decide)).trans (if_neg c_86) | exact (if_neg (by rw [c_11]; decide)).trans (if_neg (by rw [c_86]; decide)) | exact (if_neg c_43).trans (if_pos c_11) | exact (if_neg c_43).trans (if_neg c_11) | exact (if_neg c_43).trans (if_neg (by rw [c_11]; decide)) | exact (if_neg (by rw [c_43]; decide)).trans (if_pos c_11) | exact (if_neg (by rw [c_43]; decide)).trans (if_neg c_11) | exact (if_neg (by rw [c_43]; decide)).trans (if_neg (by rw [c_11]; decide)) | exact (if_neg c_43).trans (if_pos c_58) | exact (if_neg c_43).trans (if_neg c_58) | exact (if_neg c_43).trans (if_neg (by rw [c_58]; decide)) | exact (if_neg (by rw [c_43]; decide)).trans (if_pos c_58) | exact (if_neg (by rw [c_43]; decide)).trans (if_neg c_58) | exact (if_neg (by rw [c_43]; decide)).trans (if_neg (by rw [c_58]; decide)) | exact (if_neg c_43).trans (if_pos hkv) | exact (if_neg c_43).trans (if_neg hkv) | exact (if_neg c_43).trans (if_neg (by rw [hkv]; decide)) | exact (if_neg (by rw [c_43]; decide)).trans (if_pos hkv) | exact (if_neg (by rw [c_43]; decide)).trans (if_neg hkv) | exact (if_neg (by rw [c_43]; decide)).trans (if_neg (by rw [hkv]; decide)) | exact (if_neg c_43).trans (if_pos c_76) | exact (if_neg c_43).trans (if_neg c_76) | exact (if_neg c_43).trans (if_neg (by rw [c_76]; decide)) | exact (if_neg (by rw [c_43]; decide)).trans (if_pos c_76) | exact (if_neg (by rw [c_43]; decide)).trans (if_neg c_76) | exact (if_neg (by rw [c_43]; decide)).trans (if_neg (by rw [c_76]; decide)) | exact (if_neg c_43).trans (if_pos c_86) | exact (if_neg c_43).trans (if_neg c_86) | exact (if_neg c_43).trans (if_neg (by rw [c_86]; decide)) | exact (if_neg (by rw [c_43]; decide)).trans (if_pos c_86) | exact (if_neg (by rw [c_43]; decide)).trans (if_neg c_86) | exact (if_neg (by rw [c_43]; decide)).trans (if_neg (by rw [c_86]; decide)) | exact (if_neg c_58).trans (if_pos c_11) | exact (if_neg c_58).trans (if_neg c_11) | exact (if_neg c_58).trans (if_neg (by rw [c_11]; decide)) | exact (if_neg (by rw [c_58]; decide)).trans (if_pos c_11) | exact (if_neg (by rw [c_58]; decide)).trans (if_neg c_11) | exact (if_neg (by rw [c_58]; decide)).trans (if_neg (by rw [c_11]; decide)) | exact (if_neg c_58).trans (if_pos c_43) | exact (if_neg c_58).trans (if_neg c_43) | exact (if_neg c_58).trans (if_neg (by rw [c_43]; decide)) | exact (if_neg (by rw [c_58]; decide)).trans (if_pos c_43) | exact (if_neg (by rw [c_58]; decide)).trans (if_neg c_43) | exact (if_neg (by rw [c_58]; decide)).trans (if_neg (by rw [c_43]; decide)) | exact (if_neg c_58).trans (if_pos hkv) | exact (if_neg c_58).trans (if_neg hkv) | exact (if_neg c_58).trans (if_neg (by rw [hkv]; decide)) | exact (if_neg (by rw [c_58]; decide)).trans (if_pos hkv) | exact (if_neg (by rw [c_58]; decide)).trans (if_neg hkv) | exact (if_neg (by rw [c_58]; decide)).trans (if_neg (by rw [hkv]; decide)) | exact (if_neg c_58).trans (if_pos c_76) | exact (if_neg c_58).trans (if_neg c_76) | exact (if_neg c_58).trans (if_neg (by rw [c_76]; decide)) | exact (if_neg (by rw [c_58]; decide)).trans (if_pos c_76) | exact (if_neg (by rw [c_58]; decide)).trans (if_neg c_76) | exact (if_neg (by rw [c_58]; decide)).trans (if_neg (by rw [c_76]; decide)) | exact (if_neg c_58).trans (if_pos c_86) | exact (if_neg c_58).trans (if_neg c_86) | exact (if_neg c_58).trans (if_neg (by rw [c_86]; decide)) | exact (if_neg (by rw [c_58]; decide)).trans (if_pos c_86) | exact (if_neg (by rw [c_58]; decide)).trans (if_neg c_86) | exact (if_neg (by rw [c_58]; decide)).trans (if_neg (by rw [c_86]; decide)) | exact (if_neg hkv).trans (if_pos c_11) | exact (if_neg hkv).trans (if_neg c_11) | exact (if_neg hkv).trans (if_neg (by rw [c_11]; decide)) | exact (if_neg (by rw [hkv]; decide)).trans (if_pos c_11) | exact (if_neg (by rw [hkv]; decide)).trans (if_neg c_11) | exact (if_neg (by rw [hkv]; decide)).trans (if_neg (by rw [c_11]; decide)) | exact (if_neg hkv).trans (if_pos c_43) | exact (if_neg hkv).trans (if_neg c_43) | exact (if_neg hkv).trans (if_neg (by rw [c_43]; decide)) | exact (if_neg (by rw [hkv]; decide)).trans (if_pos c_43) | exact (if_neg (by rw [hkv]; decide)).trans (if_neg c_43) | exact (if_neg (by rw [hkv]; decide)).trans (if_neg (by rw [c_43]; decide)) | exact (if_neg hkv).trans (if_pos c_58) | exact (if_neg hkv).trans (if_neg c_58) | exact (if_neg hkv).trans (if_neg (by rw [c_58]; decide)) | exact (if_neg (by rw [hkv]; decide)).trans (if_pos c_58) | exact (if_neg (by rw [hkv]; decide)).trans (if_neg c_58) | exact (if_neg (by rw [hkv]; decide)).trans (if_neg (by rw [c_58]; decide)) | exact (if_neg hkv).trans (if_pos c_76) | exact (if_neg hkv).trans (if_neg c_76) | exact (if_neg hkv).trans (if_neg (by rw [c_76]; decide)) | exact (if_neg (by rw [hkv]; decide)).trans (if_pos c_76) | exact (if_neg (by rw [hkv]; decide)).trans (if_neg c_76) | exact (if_neg (by rw [hkv]; decide)).trans (if_neg (by rw [c_76]; decide)) | exact (if_neg hkv).trans (if_pos c_86) | exact (if_neg hkv).trans (if_neg c_86) | exact (if_neg hkv).trans (if_neg (by rw [c_86]; decide)) | exact (if_neg (by rw [hkv]; decide)).trans (if_pos c_86) | exact (if_neg (by rw [hkv]; decide)).trans (if_neg c_86) | exact (if_neg (by rw [hkv]; decide)).trans (if_neg (by rw [c_86]; decide)) | exact (if_neg c_76).trans (if_pos c_11) | exact (if_neg c_76).trans (if_neg c_11) | exact (if_neg c_76).trans (if_neg (by rw [c_11]; decide)) | exact (if_neg (by rw [c_76]; decide)).trans (if_pos c_11) | exact (if_neg (by rw [c_76]; decide)).trans (if_neg c_11) | exact (if_neg (by rw [c_76]; decide)).trans (if_neg (by rw [c_11]; decide)) | exact (if_neg c_76).trans (if_pos c_43) | exact (if_neg c_76).trans (if_neg c_43) | exact (if_neg c_76).trans (if_neg (by rw [c_43]; decide)) | exact (if_neg (by rw [c_76]; decide)).trans (if_pos c_43) | exact (if_neg (by rw [c_76]; decide)).trans (if_neg c_43) | exact (if_neg (by rw [c_76]; decide)).trans (if_neg (by rw [c_43]; decide)) | exact (if_neg c_76).trans (if_pos c_58) | exact (if_neg c_76).trans (if_neg c_58) | exact (if_neg c_76).trans (if_neg (by rw [c_58]; decide)) | exact (if_neg (by rw [c_76]; decide)).trans (if_pos c_58) | exact (if_neg (by rw [c_76]; decide)).trans (if_neg c_58) | exact (if_neg (by rw [c_76]; decide)).trans (if_neg (by rw [c_58]; decide)) | exact (if_neg c_76).trans (if_pos hkv) | exact (if_neg c_76).trans (if_neg hkv) | exact (if_neg c_76).trans (if_neg (by rw [hkv]; decide)) | exact (if_neg (by rw [c_76]; decide)).trans (if_pos hkv) | exact (if_neg (by rw [c_76]; decide)).trans (if_neg hkv) | exact (if_neg (by rw [c_76]; decide)).trans (if_neg (by rw [hkv]; decide)) | exact (if_neg c_76).trans (if_pos c_86) | exact (if_neg c_76).trans (if_neg c_86) | exact (if_neg c_76).trans (if_neg (by rw [c_86]; decide)) | exact (if_neg (by rw [c_76]; decide)).trans (if_pos c_86) | exact (if_neg (by rw [c_76]; decide)).trans (if_neg c_86) | exact (if_neg (by rw [c_76]; decide)).trans (if_neg (by rw [c_86]; decide)) | exact (if_neg c_86).trans (if_pos c_11) | exact (if_neg c_86).trans (if_neg c_11) | exact (if_neg c_86).trans (if_neg (by rw [c_11]; decide)) | exact (if_neg (by rw [c_86]; decide)).trans (if_pos c_11) | exact (if_neg (by rw [c_86]; decide)).trans (if_neg c_11) | exact (if_neg (by rw [c_86]; decide)).trans (if_neg (by rw [c_11]; decide)) | exact (if_neg c_86).trans (if_pos c_43) | exact (if_neg c_86).trans (if_neg c_43) | exact (if_neg c_86).trans (if_neg (by rw [c_43]; decide)) | exact (if_neg (by rw [c_86]; decide)).trans (if_pos c_43) | exact (if_neg (by rw [c_86]; decide)).trans (if_neg c_43) | exact (if_neg (by rw [c_86]; decide)).trans (if_neg (by rw [c_43]; decide)) | exact (if_neg c_86).trans (if_pos c_58) | exact (if_neg c_86).trans (if_neg c_58) | exact (if_neg c_86).trans (if_neg (by rw [c_58]; decide)) | exact (if_neg (by rw [c_86]; decide)).trans (if_pos c_58) | exact (if_neg (by rw [c_86]; decide)).trans (if_neg c_58) | exact (if_neg (by rw [c_86]; decide)).trans (if_neg (by rw [c_58]; decide)) | exact (if_neg c_86).trans (if_pos hkv) | exact (if_neg c_86).trans (if_neg hkv) | exact (if_neg c_86).trans (if_neg (by rw [hkv]; decide)) | exact (if_neg (by rw [c_86]; decide)).trans (if_pos hkv) | exact (if_neg (by rw [c_86]; decide)).trans (if_neg hkv) | exact (if_neg (by rw [c_86]; decide)).trans (if_neg (by rw [hkv]; decide)) | exact (if_neg c_86).trans (if_pos c_76) | exact (if_neg c_86).trans (if_neg c_76) | exact (if_neg c_86).trans (if_neg (by rw [c_76]; decide)) | exact (if_neg (by rw [c_86]; decide)).trans (if_pos c_76) | exact (if_neg (by rw [c_86]; decide)).trans (if_neg c_76) | exact (if_neg (by rw [c_86]; decide)).trans (if_neg (by rw [c_76]; decide)))
                have e_6 : nI (cn - (kv + 1)) - 1 = (nI (cn - 1 - kv)) + (-1) := by rw [Int32.sub_eq_add_neg, show cn - (kv + 1) = cn - 1 - kv by omega]
                exact ⟨by (try rw [e_5]); (try rw [e_6]); exact lv_sub hl [3, 4, 1, 0] rfl, trivial⟩
        · have hdone : True := trivial
          have e_7 : fo (mc_th2f pla due cn) 0 (fo (mc_thf num fm) cn 0) = fo (mc_thf num fm) cn 0 := rfl
          have e_8 : nI (cn - 0) - 1 = (nI cn) - 1 := rfl
          exact ⟨by (try rw [e_7]); (try rw [e_8]); exact lv_sub hl [1, 2, 3, 0] rfl, trivial⟩
      · refine lv_iconst (v := (-1)) hx hb d_T_countThinned_46 (by decide) ?_
        exact W.iret (v := (-1)) hx hb hr (fun t ht hW => ⟨(-1), rfl, by unfold mc_thin; rw [if_neg (by rw [c_43]; decide)], ht⟩) (fun q h => by cases h) d_T_countThinned_47
    · refine lv_aload_n hx hb d_T_countThinned_14 rfl (lv_at hl 0 rfl) ?_
      refine va_get (D := (dC, dI)) (ci := 0) (v := .ref (ad 9)) (C := R_T) (T := F_T) (N := 10) hx hb hts (hin_of in_T) hown hK hP 0 rfl rfl 0 (by decide) (hw_of hts mw_96) (fun _ h9 => h9) rfl d_T_countThinned_15 ?_
      refine lv_iload hx hb d_T_countThinned_18 (lv_at hl 3 rfl) ?_
      refine k_iald (k := iv) hx hb hK hP 1 0 rfl rfl rfl (by omega) (by decide) d_T_countThinned_20 ?_
      refine lv_iload_n hx hb d_T_countThinned_21 rfl (lv_at hl 1 rfl) ?_
      refine lv_icmp_lt (tgt := 32) hx hb d_T_countThinned_22 (by decide) (fun c_22 => ?_) (fun c_22 => ?_)
      · refine lv_iinc (v := nI (iv + 1)) (lv' := [(4, .int (nI (iv + 1))), (0, .ref (ad 2)), (1, .int fm), (2, .long (fo (mc_thf num fm) iv 0))]) hx hb d_T_countThinned_32 hl (k := 3) rfl (k_inc _) (by decide) rfl (fun ls hl => ?_)
        refine lv_goto (tgt := 5) hx hb d_T_countThinned_35 (by decide) ?_
        refine ihiv _ (by omega) ?_
        have e_9 : fo (mc_thf num fm) (iv + 1) 0 = fo (mc_thf num fm) iv 0 := by rw [fo_s]; (first | rfl | exact if_pos c_11 | exact if_neg c_11 | exact if_neg (by rw [c_11]; decide) | exact if_pos c_22 | exact if_neg c_22 | exact if_neg (by rw [c_22]; decide) | exact (if_neg c_11).trans (if_pos c_22) | exact (if_neg c_11).trans (if_neg c_22) | exact (if_neg c_11).trans (if_neg (by rw [c_22]; decide)) | exact (if_neg (by rw [c_11]; decide)).trans (if_pos c_22) | exact (if_neg (by rw [c_11]; decide)).trans (if_neg c_22) | exact (if_neg (by rw [c_11]; decide)).trans (if_neg (by rw [c_22]; decide)) | exact (if_neg c_22).trans (if_pos c_11) | exact (if_neg c_22).trans (if_neg c_11) | exact (if_neg c_22).trans (if_neg (by rw [c_11]; decide)) | exact (if_neg (by rw [c_22]; decide)).trans (if_pos c_11) | exact (if_neg (by rw [c_22]; decide)).trans (if_neg c_11) | exact (if_neg (by rw [c_22]; decide)).trans (if_neg (by rw [c_11]; decide)))
        exact ⟨by (try rw [e_9]); exact lv_sub hl [1, 2, 3, 0] rfl, trivial⟩
      · refine lv_lload_n hx hb d_T_countThinned_25 rfl (lv_at hl 2 rfl) ?_
        refine lv_lconst (v := 1) hx hb d_T_countThinned_26 rfl ?_
        refine lv_iload hx hb d_T_countThinned_27 (lv_at hl 3 rfl) ?_
        refine lv_lshl (v := zo iv) hx hb d_T_countThinned_29 rfl ?_
        refine lv_lor hx hb d_T_countThinned_30 ?_
        refine lv_lstore_n (lv' := [(2, .long ((fo (mc_thf num fm) iv 0) ||| (zo iv))), (0, .ref (ad 2)), (1, .int fm), (4, .int (nI iv))]) hx hb d_T_countThinned_31 rfl hl (by decide) rfl (fun ls hl => ?_)
        refine lv_iinc (v := nI (iv + 1)) (lv' := [(4, .int (nI (iv + 1))), (2, .long ((fo (mc_thf num fm) iv 0) ||| (zo iv))), (0, .ref (ad 2)), (1, .int fm)]) hx hb d_T_countThinned_32 hl (k := 3) rfl (k_inc _) (by decide) rfl (fun ls hl => ?_)
        refine lv_goto (tgt := 5) hx hb d_T_countThinned_35 (by decide) ?_
        refine ihiv _ (by omega) ?_
        have e_10 : fo (mc_thf num fm) (iv + 1) 0 = (fo (mc_thf num fm) iv 0) ||| (zo iv) := by rw [fo_s]; (first | rfl | exact if_pos c_11 | exact if_neg c_11 | exact if_neg (by rw [c_11]; decide) | exact if_pos c_22 | exact if_neg c_22 | exact if_neg (by rw [c_22]; decide) | exact (if_neg c_11).trans (if_pos c_22) | exact (if_neg c_11).trans (if_neg c_22) | exact (if_neg c_11).trans (if_neg (by rw [c_22]; decide)) | exact (if_neg (by rw [c_11]; decide)).trans (if_pos c_22) | exact (if_neg (by rw [c_11]; decide)).trans (if_neg c_22) | exact (if_neg (by rw [c_11]; decide)).trans (if_neg (by rw [c_22]; decide)) | exact (if_neg c_22).trans (if_pos c_11) | exact (if_neg c_22).trans (if_neg c_11) | exact (if_neg c_22).trans (if_neg (by rw [c_11]; decide)) | exact (if_neg (by rw [c_22]; decide)).trans (if_pos c_11) | exact (if_neg (by rw [c_22]; decide)).trans (if_neg c_11) | exact (if_neg (by rw [c_22]; decide)).trans (if_neg (by rw [c_11]; decide)))
        exact ⟨by (try rw [e_10]); exact lv_sub hl [2, 3, 1, 0] rfl, trivial⟩
  · have hdone : True := trivial
    have e_11 : fo (mc_thf num fm) 0 0 = 0 := rfl
    have e_12 : nI 0 = 0 := rfl
    exact ⟨by (try rw [e_11]); (try rw [e_12]); exact lv_sub hl [2, 3, 1, 0] rfl, trivial⟩
set_option maxHeartbeats 4000000 in
set_option maxRecDepth 100000 in
theorem c_findLonely (l : Launch) (dC : Nat → ClassId) (dI : Nat → Nat → Nat) (ad : Nat → Nat) (ca : Nat → ClassId) (cn : Nat) (hc : cn ≤ 81) (due : Int64) (lon : Int64) (pla : Nat → Int64) (sz : Nat) : Met l y_T_findLonelyPlaces w_T_findLonelyPlaces ({ frames := 0, cells := 0, slots := 0, locals := 0 }) (kw_P [.ref (ad 2)] sz (dC, dI) vC [(ad 2, eT ad (nI cn) due lon), (ad 13, eL 81 (ca 13) pla)] [(ca 13, .long)]) (kw_Qv (dC, dI) vC [(ca 13, .long)] (va_A [(ad 2, eT ad (nI cn) due lon), (ad 13, eL 81 (ca 13) pla)] sz) [(ad 2, eT ad (nI cn) due (mc_lon pla cn)), (ad 13, eL 81 (ca 13) pla)]) 0 0 (va_A [(ad 2, eT ad (nI cn) due lon), (ad 13, eL 81 (ca 13) pla)] sz) := by
  refine Met.ofW (cc := b_T_findLonelyPlaces) (maxL := 6) (ret := none) (by decide) rfl ?_
  intro p e s m args below meth c s₁ B hml hv
  obtain ⟨rfl, hsz, hP, hK, hD0⟩ := hv
  have hx := B.exec
  have hb := B.bytes
  have hr := B.returns
  have hts := atoms_spec (ws := w_T_findLonelyPlaces) B.pre
  have hlocks := B.notSynchronized
  have hown : s.vm.findClass R_T = some m.cls := findClass_of_methodNamed B.named
  subst hsz
  have hD := hD0.self (sz := s.heap.size)
  generalize hAe : va_A [(ad 2, eT ad (nI cn) due lon), (ad 13, eL 81 (ca 13) pla)] s.heap.size = A at hD ⊢
  have hA : ∀ q : Nat, s.heap.size ≤ q → A q := fun q h => by rw [← hAe]; exact Or.inr h
  have hS : va_S A s.heap s.heap [] := va_S.rf
  have hP : va_P (dC, dI) vC [(ad 2, eT ad (nI cn) due lon), (ad 13, eL 81 (ca 13) pla)] s.heap := hP
  have hl := lv_entry ([.ref (ad 2)]) (n := 6) (Nat.le_of_ble_eq_true rfl)
  rw [lg_entry_eq]
  generalize (lg_sl ([.ref (ad 2)]) ++ List.replicate (6 - (lg_sl ([.ref (ad 2)])).length) Slot.unset).toArray = ls at hl ⊢
  have hl : lv_has ls 6 [(0, .ref (ad 2))] := hl
  refine lv_lconst (v := 0) hx hb d_T_findLonelyPlaces_0 rfl ?_
  refine lv_lstore_n (lv' := [(1, .long 0), (0, .ref (ad 2))]) hx hb d_T_findLonelyPlaces_1 rfl hl (by decide) rfl (fun ls hl => ?_)
  refine lv_lconst (v := 0) hx hb d_T_findLonelyPlaces_2 rfl ?_
  refine lv_lstore_n (lv' := [(3, .long 0), (1, .long 0), (0, .ref (ad 2))]) hx hb d_T_findLonelyPlaces_3 rfl hl (by decide) rfl (fun ls hl => ?_)
  refine lv_iconst (v := 0) hx hb d_T_findLonelyPlaces_4 (by decide) ?_
  refine lv_istore (lv' := [(5, .int 0), (3, .long 0), (1, .long 0), (0, .ref (ad 2))]) hx hb d_T_findLonelyPlaces_5 hl (by decide) rfl (fun ls hl => ?_)
  refine k_loopH (fun iv H locs ls => lv_has ls 6 [(0, .ref (ad 2)), (1, .long ((fo (mc_lonf pla) iv (0, 0)).1)), (3, .long ((fo (mc_lonf pla) iv (0, 0)).2)), (5, .int (nI iv))] ∧ va_P (dC, dI) vC [(ad 2, eT ad (nI cn) due lon), (ad 13, eL 81 (ca 13) pla)] H ∧ va_D A [(ad 2, eT ad (nI cn) due lon), (ad 13, eL 81 (ca 13) pla)] ∧ va_S A s.heap H locs ∧ True) cn ?_ 0 _ _ _ (Nat.zero_le _) ?_
  · intro iv H locs ls hiiv hI ihiv
    obtain ⟨hl, hP, hD, hS, -⟩ := hI
    refine lv_iload hx hb d_T_findLonelyPlaces_7 (lv_at hl 3 rfl) ?_
    refine lv_aload_n hx hb d_T_findLonelyPlaces_9 rfl (lv_at hl 0 rfl) ?_
    refine va_get (D := (dC, dI)) (ci := 0) (v := .int (nI cn)) (C := R_T) (T := F_T) (N := 10) hx hb hts (hin_of in_T) hown hK hP 0 rfl rfl 5 (by decide) (hw_of hts mw_110) (fun _ h9 => h9) rfl d_T_findLonelyPlaces_10 ?_
    refine k_ge (a := iv) (b := cn) (tgt := 44) hx hb rfl rfl (by omega) (by omega) d_T_findLonelyPlaces_13 (by decide) (fun c_13 => ?_) (fun c_13 => ?_)
    · obtain rfl : cn = iv := by omega
      refine lv_aload_n hx hb d_T_findLonelyPlaces_44 rfl (lv_at hl 0 rfl) ?_
      refine lv_lload_n hx hb d_T_findLonelyPlaces_45 rfl (lv_at hl 1 rfl) ?_
      refine lv_lload_n hx hb d_T_findLonelyPlaces_46 rfl (lv_at hl 2 rfl) ?_
      refine lv_ldc2 hx hb hown (hw_of hts mw_242) d_T_findLonelyPlaces_47 ?_
      refine lv_lxor hx hb d_T_findLonelyPlaces_50 ?_
      refine lv_land hx hb d_T_findLonelyPlaces_51 ?_
      refine va_put (D := (dC, dI)) (ci := 0) (v := .long (((fo (mc_lonf pla) cn (0, 0)).1) &&& (((fo (mc_lonf pla) cn (0, 0)).2) ^^^ (-1)))) (ty := .long) (C := R_T) (T := F_T) (N := 10) hx hb hts (hin_of in_T) ft_T tk_T nm_T hown hK hP hD hS 0 rfl rfl 7 (by decide) (hw_of hts mw_114) (fun _ h9 => h9) rfl (by decide +kernel) rfl rfl (Nat.le_of_ble_eq_true rfl) d_T_findLonelyPlaces_52 (fun H locs hP hD hS => ?_)
      have hP : va_P (dC, dI) vC [(ad 2, eT ad (nI cn) due (((fo (mc_lonf pla) cn (0, 0)).1) &&& (((fo (mc_lonf pla) cn (0, 0)).2) ^^^ (-1)))), (ad 13, eL 81 (ca 13) pla)] H := hP
      have hD : va_D A [(ad 2, eT ad (nI cn) due (((fo (mc_lonf pla) cn (0, 0)).1) &&& (((fo (mc_lonf pla) cn (0, 0)).2) ^^^ (-1)))), (ad 13, eL 81 (ca 13) pla)] := hD
      have e_1 : mc_lon pla cn = ((fo (mc_lonf pla) cn (0, 0)).1) &&& (((fo (mc_lonf pla) cn (0, 0)).2) ^^^ (-1)) := rfl
      exact W.vret hx hb hr (fun t ht hW => by (try rw [e_1]); exact kw_endv hP hD hK hS [0, 1] rfl (by decide) rfl ht hW.alike) hS.2.2 d_T_findLonelyPlaces_55
    · refine lv_lload_n hx hb d_T_findLonelyPlaces_16 rfl (lv_at hl 2 rfl) ?_
      refine lv_lload_n hx hb d_T_findLonelyPlaces_17 rfl (lv_at hl 1 rfl) ?_
      refine lv_aload_n hx hb d_T_findLonelyPlaces_18 rfl (lv_at hl 0 rfl) ?_
      refine va_get (D := (dC, dI)) (ci := 0) (v := .ref (ad 13)) (C := R_T) (T := F_T) (N := 10) hx hb hts (hin_of in_T) hown hK hP 0 rfl rfl 4 (by decide) (hw_of hts mw_107) (fun _ h9 => h9) rfl d_T_findLonelyPlaces_19 ?_
      refine lv_iload hx hb d_T_findLonelyPlaces_22 (lv_at hl 3 rfl) ?_
      refine k_lald (k := iv) hx hb hK hP 1 0 rfl rfl rfl (by omega) (by decide) d_T_findLonelyPlaces_24 ?_
      refine lv_land hx hb d_T_findLonelyPlaces_25 ?_
      refine lv_lor hx hb d_T_findLonelyPlaces_26 ?_
      refine lv_lstore_n (lv' := [(3, .long (((fo (mc_lonf pla) iv (0, 0)).2) ||| (((fo (mc_lonf pla) iv (0, 0)).1) &&& (pla iv)))), (0, .ref (ad 2)), (1, .long ((fo (mc_lonf pla) iv (0, 0)).1)), (5, .int (nI iv))]) hx hb d_T_findLonelyPlaces_27 rfl hl (by decide) rfl (fun ls hl => ?_)
      refine lv_lload_n hx hb d_T_findLonelyPlaces_28 rfl (lv_at hl 2 rfl) ?_
      refine lv_aload_n hx hb d_T_findLonelyPlaces_29 rfl (lv_at hl 1 rfl) ?_
      refine va_get (D := (dC, dI)) (ci := 0) (v := .ref (ad 13)) (C := R_T) (T := F_T) (N := 10) hx hb hts (hin_of in_T) hown hK hP 0 rfl rfl 4 (by decide) (hw_of hts mw_107) (fun _ h9 => h9) rfl d_T_findLonelyPlaces_30 ?_
      refine lv_iload hx hb d_T_findLonelyPlaces_33 (lv_at hl 3 rfl) ?_
      refine k_lald (k := iv) hx hb hK hP 1 0 rfl rfl rfl (by omega) (by decide) d_T_findLonelyPlaces_35 ?_
      refine lv_lor hx hb d_T_findLonelyPlaces_36 ?_
      refine lv_lstore_n (lv' := [(1, .long (((fo (mc_lonf pla) iv (0, 0)).1) ||| (pla iv))), (3, .long (((fo (mc_lonf pla) iv (0, 0)).2) ||| (((fo (mc_lonf pla) iv (0, 0)).1) &&& (pla iv)))), (0, .ref (ad 2)), (5, .int (nI iv))]) hx hb d_T_findLonelyPlaces_37 rfl hl (by decide) rfl (fun ls hl => ?_)
      refine lv_iinc (v := nI (iv + 1)) (lv' := [(5, .int (nI (iv + 1))), (1, .long (((fo (mc_lonf pla) iv (0, 0)).1) ||| (pla iv))), (3, .long (((fo (mc_lonf pla) iv (0, 0)).2) ||| (((fo (mc_lonf pla) iv (0, 0)).1) &&& (pla iv)))), (0, .ref (ad 2))]) hx hb d_T_findLonelyPlaces_38 hl (k := 3) rfl (k_inc _) (by decide) rfl (fun ls hl => ?_)
      refine lv_goto (tgt := 7) hx hb d_T_findLonelyPlaces_41 (by decide) ?_
      refine ihiv _ _ _ (by omega) ?_
      have e_2 : (fo (mc_lonf pla) (iv + 1) (0, 0)).1 = ((fo (mc_lonf pla) iv (0, 0)).1) ||| (pla iv) := rfl
      have e_3 : (fo (mc_lonf pla) (iv + 1) (0, 0)).2 = ((fo (mc_lonf pla) iv (0, 0)).2) ||| (((fo (mc_lonf pla) iv (0, 0)).1) &&& (pla iv)) := rfl
      exact ⟨by (try rw [e_2]); (try rw [e_3]); exact lv_sub hl [3, 1, 2, 0] rfl, by (try rw [e_2]); (try rw [e_3]); exact hP, by (try rw [e_2]); (try rw [e_3]); exact hD, hS, trivial⟩
  · have hdone : True := trivial
    have e_4 : (fo (mc_lonf pla) 0 (0, 0)).1 = 0 := rfl
    have e_5 : (fo (mc_lonf pla) 0 (0, 0)).2 = 0 := rfl
    have e_6 : nI 0 = 0 := rfl
    exact ⟨by (try rw [e_4]); (try rw [e_5]); (try rw [e_6]); exact lv_sub hl [3, 2, 1, 0] rfl, by (try rw [e_4]); (try rw [e_5]); (try rw [e_6]); exact hP, by (try rw [e_4]); (try rw [e_5]); (try rw [e_6]); exact hD, hS, trivial⟩
end
section
set_option maxHeartbeats 4000000 in
set_option maxRecDepth 100000 in
theorem c_append (l : Launch) (dC : Nat → ClassId) (dI : Nat → Nat → Nat) (ad : Nat → Nat) (ca : Nat → ClassId) (cn : Nat) (due : Int64) (lon : Int64) (one : Nat → Int32) (num : Nat → Int32) (out : Nat → Int32) (siz : Nat → Int32) (inp : Nat → Int32) (pla : Nat → Int64) (oop : Nat → Int32) (pin : Nat → Int32) (psz : Nat → Int32) (pn : Nat) (hpn : pn < 81) (hcn : cn < 81) (sz : Nat) : Met l y_T_append w_T_append ({ frames := 1, cells := 0, slots := 0, locals := 24 }) (kw_P [.ref (ad 2), .int (nI pn), .ref (ad 4)] sz (dC, dI) vC [(ad 2, eT ad (nI cn) due lon), (ad 3, eP ad), (ad 4, eI 2 (ca 4) one), (ad 9, eI 81 (ca 9) num), (ad 10, eI 81 (ca 10) out), (ad 11, eI 81 (ca 11) siz), (ad 12, eI 81 (ca 12) inp), (ad 13, eL 81 (ca 13) pla), (ad 14, eI 81 (ca 14) oop), (ad 15, eI 81 (ca 15) pin), (ad 16, eI 81 (ca 16) psz)] [(ca 4, .int), (ca 9, .int), (ca 10, .int), (ca 11, .int), (ca 12, .int), (ca 13, .long), (ca 14, .int), (ca 15, .int), (ca 16, .int)]) (kw_Qv (dC, dI) vC [(ca 4, .int), (ca 9, .int), (ca 10, .int), (ca 11, .int), (ca 12, .int), (ca 13, .long), (ca 14, .int), (ca 15, .int), (ca 16, .int)] (va_A [(ad 2, eT ad (nI cn) due lon), (ad 3, eP ad), (ad 4, eI 2 (ca 4) one), (ad 9, eI 81 (ca 9) num), (ad 10, eI 81 (ca 10) out), (ad 11, eI 81 (ca 11) siz), (ad 12, eI 81 (ca 12) inp), (ad 13, eL 81 (ca 13) pla), (ad 14, eI 81 (ca 14) oop), (ad 15, eI 81 (ca 15) pin), (ad 16, eI 81 (ca 16) psz)] sz) [(ad 2, eT ad (nI (cn + 1)) due lon), (ad 3, eP ad), (ad 4, eI 2 (ca 4) one), (ad 9, eI 81 (ca 9) (upd num cn (nI pn))), (ad 10, eI 81 (ca 10) (upd out cn (oop pn))), (ad 11, eI 81 (ca 11) (upd siz cn (psz pn))), (ad 12, eI 81 (ca 12) (upd inp cn (pin pn))), (ad 13, eL 81 (ca 13) (vp_updL pla cn (mc_pla one (pin pn) (oop pn)))), (ad 14, eI 81 (ca 14) oop), (ad 15, eI 81 (ca 15) pin), (ad 16, eI 81 (ca 16) psz)]) 0 0 (va_A [(ad 2, eT ad (nI cn) due lon), (ad 3, eP ad), (ad 4, eI 2 (ca 4) one), (ad 9, eI 81 (ca 9) num), (ad 10, eI 81 (ca 10) out), (ad 11, eI 81 (ca 11) siz), (ad 12, eI 81 (ca 12) inp), (ad 13, eL 81 (ca 13) pla), (ad 14, eI 81 (ca 14) oop), (ad 15, eI 81 (ca 15) pin), (ad 16, eI 81 (ca 16) psz)] sz) := by
  refine Met.ofW (cc := b_T_append) (maxL := 6) (ret := none) (by decide) rfl ?_
  intro p e s m args below meth c s₁ B hml hv
  obtain ⟨rfl, hsz, hP, hK, hD0⟩ := hv
  have hx := B.exec
  have hb := B.bytes
  have hr := B.returns
  have hts := atoms_spec (ws := w_T_append) B.pre
  have hlocks := B.notSynchronized
  have hown : s.vm.findClass R_T = some m.cls := findClass_of_methodNamed B.named
  subst hsz
  have hD := hD0.self (sz := s.heap.size)
  generalize hAe : va_A [(ad 2, eT ad (nI cn) due lon), (ad 3, eP ad), (ad 4, eI 2 (ca 4) one), (ad 9, eI 81 (ca 9) num), (ad 10, eI 81 (ca 10) out), (ad 11, eI 81 (ca 11) siz), (ad 12, eI 81 (ca 12) inp), (ad 13, eL 81 (ca 13) pla), (ad 14, eI 81 (ca 14) oop), (ad 15, eI 81 (ca 15) pin), (ad 16, eI 81 (ca 16) psz)] s.heap.size = A at hD ⊢
  have hA : ∀ q : Nat, s.heap.size ≤ q → A q := fun q h => by rw [← hAe]; exact Or.inr h
  have hS : va_S A s.heap s.heap [] := va_S.rf
  have hP : va_P (dC, dI) vC [(ad 2, eT ad (nI cn) due lon), (ad 3, eP ad), (ad 4, eI 2 (ca 4) one), (ad 9, eI 81 (ca 9) num), (ad 10, eI 81 (ca 10) out), (ad 11, eI 81 (ca 11) siz), (ad 12, eI 81 (ca 12) inp), (ad 13, eL 81 (ca 13) pla), (ad 14, eI 81 (ca 14) oop), (ad 15, eI 81 (ca 15) pin), (ad 16, eI 81 (ca 16) psz)] s.heap := hP
  have hl := lv_entry ([.ref (ad 2), .int (nI pn), .ref (ad 4)]) (n := 6) (Nat.le_of_ble_eq_true rfl)
  rw [lg_entry_eq]
  generalize (lg_sl ([.ref (ad 2), .int (nI pn), .ref (ad 4)]) ++ List.replicate (6 - (lg_sl ([.ref (ad 2), .int (nI pn), .ref (ad 4)])).length) Slot.unset).toArray = ls at hl ⊢
  have hl : lv_has ls 6 [(0, .ref (ad 2)), (1, .int (nI pn)), (2, .ref (ad 4))] := hl
  refine lv_aload_n hx hb d_T_append_0 rfl (lv_at hl 0 rfl) ?_
  refine va_get (D := (dC, dI)) (ci := 0) (v := .ref (ad 3)) (C := R_T) (T := F_T) (N := 10) hx hb hts (hin_of in_T) hown hK hP 0 rfl rfl 8 (by decide) (hw_of hts mw_115) (fun _ h9 => h9) rfl d_T_append_1 ?_
  refine va_get (D := (dC, dI)) (ci := 1) (v := .ref (ad 15)) (C := R_P) (T := F_P) (N := 2) hx hb hts (hin_of in_P) hown hK hP 1 rfl rfl 0 (by decide) (hw_of hts mw_86) (fun _ h9 => h9) rfl d_T_append_4 ?_
  refine lv_iload_n hx hb d_T_append_7 rfl (lv_at hl 1 rfl) ?_
  refine k_iald (k := pn) hx hb hK hP 9 7 rfl rfl rfl (by omega) (by decide) d_T_append_8 ?_
  refine lv_istore_n (lv' := [(3, .int (pin pn)), (0, .ref (ad 2)), (1, .int (nI pn)), (2, .ref (ad 4))]) hx hb d_T_append_9 rfl hl (by decide) rfl (fun ls hl => ?_)
  refine lv_aload_n hx hb d_T_append_10 rfl (lv_at hl 1 rfl) ?_
  refine va_get (D := (dC, dI)) (ci := 0) (v := .ref (ad 9)) (C := R_T) (T := F_T) (N := 10) hx hb hts (hin_of in_T) hown hK hP 0 rfl rfl 0 (by decide) (hw_of hts mw_96) (fun _ h9 => h9) rfl d_T_append_11 ?_
  refine lv_aload_n hx hb d_T_append_14 rfl (lv_at hl 1 rfl) ?_
  refine va_get (D := (dC, dI)) (ci := 0) (v := .int (nI cn)) (C := R_T) (T := F_T) (N := 10) hx hb hts (hin_of in_T) hown hK hP 0 rfl rfl 5 (by decide) (hw_of hts mw_110) (fun _ h9 => h9) rfl d_T_append_15 ?_
  refine lv_iload_n hx hb d_T_append_18 rfl (lv_at hl 2 rfl) ?_
  refine k_iast (k := cn) hx hb hK hP hD hS 3 1 rfl rfl rfl (by omega) (by decide) d_T_append_19 (fun H locs hP hD hS => ?_)
  have hP : va_P (dC, dI) vC [(ad 2, eT ad (nI cn) due lon), (ad 3, eP ad), (ad 4, eI 2 (ca 4) one), (ad 9, eI 81 (ca 9) (upd num cn (nI pn))), (ad 10, eI 81 (ca 10) out), (ad 11, eI 81 (ca 11) siz), (ad 12, eI 81 (ca 12) inp), (ad 13, eL 81 (ca 13) pla), (ad 14, eI 81 (ca 14) oop), (ad 15, eI 81 (ca 15) pin), (ad 16, eI 81 (ca 16) psz)] H := hP
  have hD : va_D A [(ad 2, eT ad (nI cn) due lon), (ad 3, eP ad), (ad 4, eI 2 (ca 4) one), (ad 9, eI 81 (ca 9) (upd num cn (nI pn))), (ad 10, eI 81 (ca 10) out), (ad 11, eI 81 (ca 11) siz), (ad 12, eI 81 (ca 12) inp), (ad 13, eL 81 (ca 13) pla), (ad 14, eI 81 (ca 14) oop), (ad 15, eI 81 (ca 15) pin), (ad 16, eI 81 (ca 16) psz)] := hD
  refine lv_aload_n hx hb d_T_append_20 rfl (lv_at hl 1 rfl) ?_
  refine va_get (D := (dC, dI)) (ci := 0) (v := .ref (ad 10)) (C := R_T) (T := F_T) (N := 10) hx hb hts (hin_of in_T) hown hK hP 0 rfl rfl 1 (by decide) (hw_of hts mw_98) (fun _ h9 => h9) rfl d_T_append_21 ?_
  refine lv_aload_n hx hb d_T_append_24 rfl (lv_at hl 1 rfl) ?_
  refine va_get (D := (dC, dI)) (ci := 0) (v := .int (nI cn)) (C := R_T) (T := F_T) (N := 10) hx hb hts (hin_of in_T) hown hK hP 0 rfl rfl 5 (by decide) (hw_of hts mw_110) (fun _ h9 => h9) rfl d_T_append_25 ?_
  refine lv_aload_n hx hb d_T_append_28 rfl (lv_at hl 1 rfl) ?_
  refine va_get (D := (dC, dI)) (ci := 0) (v := .ref (ad 14)) (C := R_T) (T := F_T) (N := 10) hx hb hts (hin_of in_T) hown hK hP 0 rfl rfl 9 (by decide) (hw_of hts mw_116) (fun _ h9 => h9) rfl d_T_append_29 ?_
  refine lv_iload_n hx hb d_T_append_32 rfl (lv_at hl 2 rfl) ?_
  refine k_iald (k := pn) hx hb hK hP 8 6 rfl rfl rfl (by omega) (by decide) d_T_append_33 ?_
  refine k_iast (k := cn) hx hb hK hP hD hS 4 2 rfl rfl rfl (by omega) (by decide) d_T_append_34 (fun H locs hP hD hS => ?_)
  have hP : va_P (dC, dI) vC [(ad 2, eT ad (nI cn) due lon), (ad 3, eP ad), (ad 4, eI 2 (ca 4) one), (ad 9, eI 81 (ca 9) (upd num cn (nI pn))), (ad 10, eI 81 (ca 10) (upd out cn (oop pn))), (ad 11, eI 81 (ca 11) siz), (ad 12, eI 81 (ca 12) inp), (ad 13, eL 81 (ca 13) pla), (ad 14, eI 81 (ca 14) oop), (ad 15, eI 81 (ca 15) pin), (ad 16, eI 81 (ca 16) psz)] H := hP
  have hD : va_D A [(ad 2, eT ad (nI cn) due lon), (ad 3, eP ad), (ad 4, eI 2 (ca 4) one), (ad 9, eI 81 (ca 9) (upd num cn (nI pn))), (ad 10, eI 81 (ca 10) (upd out cn (oop pn))), (ad 11, eI 81 (ca 11) siz), (ad 12, eI 81 (ca 12) inp), (ad 13, eL 81 (ca 13) pla), (ad 14, eI 81 (ca 14) oop), (ad 15, eI 81 (ca 15) pin), (ad 16, eI 81 (ca 16) psz)] := hD
  refine lv_aload_n hx hb d_T_append_35 rfl (lv_at hl 1 rfl) ?_
  refine va_get (D := (dC, dI)) (ci := 0) (v := .ref (ad 11)) (C := R_T) (T := F_T) (N := 10) hx hb hts (hin_of in_T) hown hK hP 0 rfl rfl 2 (by decide) (hw_of hts mw_101) (fun _ h9 => h9) rfl d_T_append_36 ?_
  refine lv_aload_n hx hb d_T_append_39 rfl (lv_at hl 1 rfl) ?_
  refine va_get (D := (dC, dI)) (ci := 0) (v := .int (nI cn)) (C := R_T) (T := F_T) (N := 10) hx hb hts (hin_of in_T) hown hK hP 0 rfl rfl 5 (by decide) (hw_of hts mw_110) (fun _ h9 => h9) rfl d_T_append_40 ?_
  refine lv_aload_n hx hb d_T_append_43 rfl (lv_at hl 1 rfl) ?_
  refine va_get (D := (dC, dI)) (ci := 0) (v := .ref (ad 3)) (C := R_T) (T := F_T) (N := 10) hx hb hts (hin_of in_T) hown hK hP 0 rfl rfl 8 (by decide) (hw_of hts mw_115) (fun _ h9 => h9) rfl d_T_append_44 ?_
  refine va_get (D := (dC, dI)) (ci := 1) (v := .ref (ad 16)) (C := R_P) (T := F_P) (N := 2) hx hb hts (hin_of in_P) hown hK hP 1 rfl rfl 1 (by decide) (hw_of hts mw_88) (fun _ h9 => h9) rfl d_T_append_47 ?_
  refine lv_iload_n hx hb d_T_append_50 rfl (lv_at hl 2 rfl) ?_
  refine k_iald (k := pn) hx hb hK hP 10 8 rfl rfl rfl (by omega) (by decide) d_T_append_51 ?_
  refine k_iast (k := cn) hx hb hK hP hD hS 5 3 rfl rfl rfl (by omega) (by decide) d_T_append_52 (fun H locs hP hD hS => ?_)
  have hP : va_P (dC, dI) vC [(ad 2, eT ad (nI cn) due lon), (ad 3, eP ad), (ad 4, eI 2 (ca 4) one), (ad 9, eI 81 (ca 9) (upd num cn (nI pn))), (ad 10, eI 81 (ca 10) (upd out cn (oop pn))), (ad 11, eI 81 (ca 11) (upd siz cn (psz pn))), (ad 12, eI 81 (ca 12) inp), (ad 13, eL 81 (ca 13) pla), (ad 14, eI 81 (ca 14) oop), (ad 15, eI 81 (ca 15) pin), (ad 16, eI 81 (ca 16) psz)] H := hP
  have hD : va_D A [(ad 2, eT ad (nI cn) due lon), (ad 3, eP ad), (ad 4, eI 2 (ca 4) one), (ad 9, eI 81 (ca 9) (upd num cn (nI pn))), (ad 10, eI 81 (ca 10) (upd out cn (oop pn))), (ad 11, eI 81 (ca 11) (upd siz cn (psz pn))), (ad 12, eI 81 (ca 12) inp), (ad 13, eL 81 (ca 13) pla), (ad 14, eI 81 (ca 14) oop), (ad 15, eI 81 (ca 15) pin), (ad 16, eI 81 (ca 16) psz)] := hD
  refine lv_aload_n hx hb d_T_append_53 rfl (lv_at hl 1 rfl) ?_
  refine va_get (D := (dC, dI)) (ci := 0) (v := .ref (ad 12)) (C := R_T) (T := F_T) (N := 10) hx hb hts (hin_of in_T) hown hK hP 0 rfl rfl 3 (by decide) (hw_of hts mw_104) (fun _ h9 => h9) rfl d_T_append_54 ?_
  refine lv_aload_n hx hb d_T_append_57 rfl (lv_at hl 1 rfl) ?_
  refine va_get (D := (dC, dI)) (ci := 0) (v := .int (nI cn)) (C := R_T) (T := F_T) (N := 10) hx hb hts (hin_of in_T) hown hK hP 0 rfl rfl 5 (by decide) (hw_of hts mw_110) (fun _ h9 => h9) rfl d_T_append_58 ?_
  refine lv_iload_n hx hb d_T_append_61 rfl (lv_at hl 0 rfl) ?_
  refine k_iast (k := cn) hx hb hK hP hD hS 6 4 rfl rfl rfl (by omega) (by decide) d_T_append_62 (fun H locs hP hD hS => ?_)
  have hP : va_P (dC, dI) vC [(ad 2, eT ad (nI cn) due lon), (ad 3, eP ad), (ad 4, eI 2 (ca 4) one), (ad 9, eI 81 (ca 9) (upd num cn (nI pn))), (ad 10, eI 81 (ca 10) (upd out cn (oop pn))), (ad 11, eI 81 (ca 11) (upd siz cn (psz pn))), (ad 12, eI 81 (ca 12) (upd inp cn (pin pn))), (ad 13, eL 81 (ca 13) pla), (ad 14, eI 81 (ca 14) oop), (ad 15, eI 81 (ca 15) pin), (ad 16, eI 81 (ca 16) psz)] H := hP
  have hD : va_D A [(ad 2, eT ad (nI cn) due lon), (ad 3, eP ad), (ad 4, eI 2 (ca 4) one), (ad 9, eI 81 (ca 9) (upd num cn (nI pn))), (ad 10, eI 81 (ca 10) (upd out cn (oop pn))), (ad 11, eI 81 (ca 11) (upd siz cn (psz pn))), (ad 12, eI 81 (ca 12) (upd inp cn (pin pn))), (ad 13, eL 81 (ca 13) pla), (ad 14, eI 81 (ca 14) oop), (ad 15, eI 81 (ca 15) pin), (ad 16, eI 81 (ca 16) psz)] := hD
  refine lv_iload_n hx hb d_T_append_63 rfl (lv_at hl 0 rfl) ?_
  refine lv_i2l hx hb d_T_append_64 rfl ?_
  refine lv_bipush (v := 16) hx hb d_T_append_65 (by decide) ?_
  refine lv_lshl (v := ((pin pn).toInt64) <<< ((16 : Int32).toInt64 &&& 63)) hx hb d_T_append_67 rfl ?_
  refine lv_iload_n hx hb d_T_append_68 rfl (lv_at hl 0 rfl) ?_
  refine lv_i2l hx hb d_T_append_69 rfl ?_
  refine lv_lor hx hb d_T_append_70 ?_
  refine lv_lstore (lv' := [(4, .long ((((pin pn).toInt64) <<< ((16 : Int32).toInt64 &&& 63)) ||| ((pin pn).toInt64))), (3, .int (pin pn)), (0, .ref (ad 2)), (1, .int (nI pn)), (2, .ref (ad 4))]) hx hb d_T_append_71 hl (by decide) rfl (fun ls hl => ?_)
  refine lv_aload_n hx hb d_T_append_73 rfl (lv_at hl 2 rfl) ?_
  refine va_get (D := (dC, dI)) (ci := 0) (v := .ref (ad 13)) (C := R_T) (T := F_T) (N := 10) hx hb hts (hin_of in_T) hown hK hP 0 rfl rfl 4 (by decide) (hw_of hts mw_107) (fun _ h9 => h9) rfl d_T_append_74 ?_
  refine lv_aload_n hx hb d_T_append_77 rfl (lv_at hl 2 rfl) ?_
  refine va_get (D := (dC, dI)) (ci := 0) (v := .int (nI cn)) (C := R_T) (T := F_T) (N := 10) hx hb hts (hin_of in_T) hown hK hP 0 rfl rfl 5 (by decide) (hw_of hts mw_110) (fun _ h9 => h9) rfl d_T_append_78 ?_
  refine lv_lload hx hb d_T_append_81 (lv_at hl 0 rfl) ?_
  refine lv_aload_n hx hb d_T_append_83 rfl (lv_at hl 4 rfl) ?_
  refine lv_aload_n hx hb d_T_append_84 rfl (lv_at hl 2 rfl) ?_
  refine va_get (D := (dC, dI)) (ci := 0) (v := .ref (ad 10)) (C := R_T) (T := F_T) (N := 10) hx hb hts (hin_of in_T) hown hK hP 0 rfl rfl 1 (by decide) (hw_of hts mw_98) (fun _ h9 => h9) rfl d_T_append_85 ?_
  refine lv_aload_n hx hb d_T_append_88 rfl (lv_at hl 2 rfl) ?_
  refine va_get (D := (dC, dI)) (ci := 0) (v := .int (nI cn)) (C := R_T) (T := F_T) (N := 10) hx hb hts (hin_of in_T) hown hK hP 0 rfl rfl 5 (by decide) (hw_of hts mw_110) (fun _ h9 => h9) rfl d_T_append_89 ?_
  refine k_iald (k := cn) hx hb hK hP 4 2 rfl rfl rfl (by omega) (by decide) d_T_append_92 ?_
  have hPc := hP.sub (ws' := [(ad 4, eI 2 (ca 4) one)]) [2] rfl
  have hKc := hK.sub (tys' := [(ca 4, .int)]) [0] rfl
  refine vp_callSl (W.runS (As := [.ref (ad 4), .int ((upd out cn (oop pn)) cn)]) (rest := [.long ((((pin pn).toInt64) <<< ((16 : Int32).toInt64 &&& 63)) ||| ((pin pn).toInt64)), .int (nI cn), .ref (ad 13)]) ⟨hx, hb, hml, hown, hts⟩ (c_placesOf l dC dI ad ca one ((upd out cn (oop pn)) cn)) (va_cwS 2 hts (gd_S mw_224 mw_225 mw_42 mw_226) rfl rfl rfl (by decide +kernel) ⟨Nat.le_of_ble_eq_true rfl, Nat.le_of_ble_eq_true rfl⟩) (kr_S hKc hPc) rfl rfl hl.1 rfl (lv_room (Nat.le_of_ble_eq_true rfl)) d_T_append_93 ⟨Nat.zero_le _, Nat.zero_le _⟩) (fun r hq => ?_)
  subst hq
  refine lv_land hx hb d_T_append_96 ?_
  refine k_last (k := cn) hx hb hK hP hD hS 7 5 rfl rfl rfl (by omega) (by decide) d_T_append_97 (fun H locs hP hD hS => ?_)
  have hP : va_P (dC, dI) vC [(ad 2, eT ad (nI cn) due lon), (ad 3, eP ad), (ad 4, eI 2 (ca 4) one), (ad 9, eI 81 (ca 9) (upd num cn (nI pn))), (ad 10, eI 81 (ca 10) (upd out cn (oop pn))), (ad 11, eI 81 (ca 11) (upd siz cn (psz pn))), (ad 12, eI 81 (ca 12) (upd inp cn (pin pn))), (ad 13, eL 81 (ca 13) (vp_updL pla cn (((((pin pn).toInt64) <<< ((16 : Int32).toInt64 &&& 63)) ||| ((pin pn).toInt64)) &&& (fo (mc_plf one ((upd out cn (oop pn)) cn)) 2 0)))), (ad 14, eI 81 (ca 14) oop), (ad 15, eI 81 (ca 15) pin), (ad 16, eI 81 (ca 16) psz)] H := hP
  have hD : va_D A [(ad 2, eT ad (nI cn) due lon), (ad 3, eP ad), (ad 4, eI 2 (ca 4) one), (ad 9, eI 81 (ca 9) (upd num cn (nI pn))), (ad 10, eI 81 (ca 10) (upd out cn (oop pn))), (ad 11, eI 81 (ca 11) (upd siz cn (psz pn))), (ad 12, eI 81 (ca 12) (upd inp cn (pin pn))), (ad 13, eL 81 (ca 13) (vp_updL pla cn (((((pin pn).toInt64) <<< ((16 : Int32).toInt64 &&& 63)) ||| ((pin pn).toInt64)) &&& (fo (mc_plf one ((upd out cn (oop pn)) cn)) 2 0)))), (ad 14, eI 81 (ca 14) oop), (ad 15, eI 81 (ca 15) pin), (ad 16, eI 81 (ca 16) psz)] := hD
  refine lv_aload_n hx hb d_T_append_98 rfl (lv_at hl 2 rfl) ?_
  refine lv_dup hx hb d_T_append_99 rfl ?_
  refine va_get (D := (dC, dI)) (ci := 0) (v := .int (nI cn)) (C := R_T) (T := F_T) (N := 10) hx hb hts (hin_of in_T) hown hK hP 0 rfl rfl 5 (by decide) (hw_of hts mw_110) (fun _ h9 => h9) rfl d_T_append_100 ?_
  refine lv_iconst (v := 1) hx hb d_T_append_103 (by decide) ?_
  refine k_iadd (a := cn) (b := 1) hx hb rfl rfl d_T_append_104 ?_
  refine va_put (D := (dC, dI)) (ci := 0) (v := .int (nI (cn + 1))) (ty := .int) (C := R_T) (T := F_T) (N := 10) hx hb hts (hin_of in_T) ft_T tk_T nm_T hown hK hP hD hS 0 rfl rfl 5 (by decide) (hw_of hts mw_110) (fun _ h9 => h9) rfl (by decide +kernel) rfl rfl (Nat.le_of_ble_eq_true rfl) d_T_append_105 (fun H locs hP hD hS => ?_)
  have hP : va_P (dC, dI) vC [(ad 2, eT ad (nI (cn + 1)) due lon), (ad 3, eP ad), (ad 4, eI 2 (ca 4) one), (ad 9, eI 81 (ca 9) (upd num cn (nI pn))), (ad 10, eI 81 (ca 10) (upd out cn (oop pn))), (ad 11, eI 81 (ca 11) (upd siz cn (psz pn))), (ad 12, eI 81 (ca 12) (upd inp cn (pin pn))), (ad 13, eL 81 (ca 13) (vp_updL pla cn (((((pin pn).toInt64) <<< ((16 : Int32).toInt64 &&& 63)) ||| ((pin pn).toInt64)) &&& (fo (mc_plf one ((upd out cn (oop pn)) cn)) 2 0)))), (ad 14, eI 81 (ca 14) oop), (ad 15, eI 81 (ca 15) pin), (ad 16, eI 81 (ca 16) psz)] H := hP
  have hD : va_D A [(ad 2, eT ad (nI (cn + 1)) due lon), (ad 3, eP ad), (ad 4, eI 2 (ca 4) one), (ad 9, eI 81 (ca 9) (upd num cn (nI pn))), (ad 10, eI 81 (ca 10) (upd out cn (oop pn))), (ad 11, eI 81 (ca 11) (upd siz cn (psz pn))), (ad 12, eI 81 (ca 12) (upd inp cn (pin pn))), (ad 13, eL 81 (ca 13) (vp_updL pla cn (((((pin pn).toInt64) <<< ((16 : Int32).toInt64 &&& 63)) ||| ((pin pn).toInt64)) &&& (fo (mc_plf one ((upd out cn (oop pn)) cn)) 2 0)))), (ad 14, eI 81 (ca 14) oop), (ad 15, eI 81 (ca 15) pin), (ad 16, eI 81 (ca 16) psz)] := hD
  have e_1 : vp_updL pla cn (mc_pla one (pin pn) (oop pn)) = vp_updL pla cn (((((pin pn).toInt64) <<< ((16 : Int32).toInt64 &&& 63)) ||| ((pin pn).toInt64)) &&& (fo (mc_plf one ((upd out cn (oop pn)) cn)) 2 0)) := by rw [pk_us]; rfl
  exact W.vret hx hb hr (fun t ht hW => by (try rw [e_1]); exact kw_endv hP hD hK hS [0, 1, 2, 3, 4, 5, 6, 7, 8, 9, 10] rfl (by decide) rfl ht hW.alike) hS.2.2 d_T_append_108
end
section
set_option maxHeartbeats 4000000 in
set_option maxRecDepth 100000 in
theorem c_serversOf (l : Launch) (dC : Nat → ClassId) (dI : Nat → Nat → Nat) (ad : Nat → Nat) (ca : Nat → ClassId) (pk : Int32) (pp : Int32) (bw : Int32) (bs : Int64) (cn : Nat) (hc : cn ≤ 63) (due : Int64) (lon : Int64) (pla : Nat → Int64) (q : Nat) (hq : q < 32) : Met l y_S_serversOf w_S_serversOf ({ frames := 0, cells := 0, slots := 0, locals := 0 }) (kr_P [.ref (ad 1), .int (nI q)] (dC, dI) vC [(ad 1, eS ad pk pp bw bs), (ad 2, eT ad (nI cn) due lon), (ad 13, eL 81 (ca 13) pla)] [(ca 13, .long)]) (vp_Sl (fun r => r = fo (mc_svf pla q) cn 0)) 0 0 (fun _ => False) := by
  refine Met.ofW (cc := b_S_serversOf) (maxL := 5) (ret := (some .long)) (by decide) rfl ?_
  intro p e s m args below meth c s₁ B hml hv
  obtain ⟨rfl, hP, hK⟩ := hv
  have hx := B.exec
  have hb := B.bytes
  have hr := B.returns
  have hts := atoms_spec (ws := w_S_serversOf) B.pre
  have hlocks := B.notSynchronized
  have hown : s.vm.findClass R_S = some m.cls := findClass_of_methodNamed B.named
  have hl := lv_entry ([.ref (ad 1), .int (nI q)]) (n := 5) (Nat.le_of_ble_eq_true rfl)
  rw [lg_entry_eq]
  generalize (lg_sl ([.ref (ad 1), .int (nI q)]) ++ List.replicate (5 - (lg_sl ([.ref (ad 1), .int (nI q)])).length) Slot.unset).toArray = ls at hl ⊢
  have hl : lv_has ls 5 [(0, .ref (ad 1)), (1, .int (nI q))] := hl
  refine lv_lconst (v := 0) hx hb d_S_serversOf_0 rfl ?_
  refine lv_lstore_n (lv' := [(2, .long 0), (0, .ref (ad 1)), (1, .int (nI q))]) hx hb d_S_serversOf_1 rfl hl (by decide) rfl (fun ls hl => ?_)
  refine lv_iconst (v := 0) hx hb d_S_serversOf_2 (by decide) ?_
  refine lv_istore (lv' := [(4, .int 0), (2, .long 0), (0, .ref (ad 1)), (1, .int (nI q))]) hx hb d_S_serversOf_3 hl (by decide) rfl (fun ls hl => ?_)
  refine k_loopR (fun iv ls => lv_has ls 5 [(0, .ref (ad 1)), (1, .int (nI q)), (2, .long (fo (mc_svf pla q) iv 0)), (4, .int (nI iv))] ∧ True) cn ?_ 0 _ (Nat.zero_le _) ?_
  · intro iv ls hiiv hI ihiv
    obtain ⟨hl, -⟩ := hI
    refine lv_iload hx hb d_S_serversOf_5 (lv_at hl 3 rfl) ?_
    refine lv_aload_n hx hb d_S_serversOf_7 rfl (lv_at hl 0 rfl) ?_
    refine va_get (D := (dC, dI)) (ci := 2) (v := .ref (ad 2)) (C := R_S) (T := F_S) (N := 8) hx hb hts (hin_of in_S) hown hK hP 0 rfl rfl 3 (by decide) (hw_of hts mw_144) (fun _ h9 => h9) rfl d_S_serversOf_8 ?_
    refine va_get (D := (dC, dI)) (ci := 0) (v := .int (nI cn)) (C := R_T) (T := F_T) (N := 10) hx hb hts (hin_of in_T) hown hK hP 1 rfl rfl 5 (by decide) (hw_of hts mw_109) (fun _ h9 => h9) rfl d_S_serversOf_11 ?_
    refine k_ge (a := iv) (b := cn) (tgt := 43) hx hb rfl rfl (by omega) (by omega) d_S_serversOf_14 (by decide) (fun c_14 => ?_) (fun c_14 => ?_)
    · obtain rfl : cn = iv := by omega
      refine lv_lload_n hx hb d_S_serversOf_43 rfl (lv_at hl 2 rfl) ?_
      exact W.lret (v := fo (mc_svf pla q) cn 0) hx hb hr (fun t ht hW => ⟨fo (mc_svf pla q) cn 0, rfl, rfl, ht⟩) (fun q h => by cases h) d_S_serversOf_44
    · refine lv_lload_n hx hb d_S_serversOf_17 rfl (lv_at hl 2 rfl) ?_
      refine lv_aload_n hx hb d_S_serversOf_18 rfl (lv_at hl 0 rfl) ?_
      refine va_get (D := (dC, dI)) (ci := 2) (v := .ref (ad 2)) (C := R_S) (T := F_S) (N := 8) hx hb hts (hin_of in_S) hown hK hP 0 rfl rfl 3 (by decide) (hw_of hts mw_144) (fun _ h9 => h9) rfl d_S_serversOf_19 ?_
      refine va_get (D := (dC, dI)) (ci := 0) (v := .ref (ad 13)) (C := R_T) (T := F_T) (N := 10) hx hb hts (hin_of in_T) hown hK hP 1 rfl rfl 4 (by decide) (hw_of hts mw_108) (fun _ h9 => h9) rfl d_S_serversOf_22 ?_
      refine lv_iload hx hb d_S_serversOf_25 (lv_at hl 3 rfl) ?_
      refine k_lald (k := iv) hx hb hK hP 2 0 rfl rfl rfl (by omega) (by decide) d_S_serversOf_27 ?_
      refine lv_iload_n hx hb d_S_serversOf_28 rfl (lv_at hl 1 rfl) ?_
      refine lv_lshr (v := (pla iv) >>> ((nI q).toInt64 &&& 63)) hx hb d_S_serversOf_29 rfl ?_
      refine lv_lconst (v := 1) hx hb d_S_serversOf_30 rfl ?_
      refine lv_land hx hb d_S_serversOf_31 ?_
      refine lv_iload hx hb d_S_serversOf_32 (lv_at hl 3 rfl) ?_
      refine lv_lshl (v := (((pla iv) >>> ((nI q).toInt64 &&& 63)) &&& 1) <<< ((nI iv).toInt64 &&& 63)) hx hb d_S_serversOf_34 rfl ?_
      refine lv_lor hx hb d_S_serversOf_35 ?_
      refine lv_lstore_n (lv' := [(2, .long ((fo (mc_svf pla q) iv 0) ||| ((((pla iv) >>> ((nI q).toInt64 &&& 63)) &&& 1) <<< ((nI iv).toInt64 &&& 63)))), (0, .ref (ad 1)), (1, .int (nI q)), (4, .int (nI iv))]) hx hb d_S_serversOf_36 rfl hl (by decide) rfl (fun ls hl => ?_)
      refine lv_iinc (v := nI (iv + 1)) (lv' := [(4, .int (nI (iv + 1))), (2, .long ((fo (mc_svf pla q) iv 0) ||| ((((pla iv) >>> ((nI q).toInt64 &&& 63)) &&& 1) <<< ((nI iv).toInt64 &&& 63)))), (0, .ref (ad 1)), (1, .int (nI q))]) hx hb d_S_serversOf_37 hl (k := 3) rfl (k_inc _) (by decide) rfl (fun ls hl => ?_)
      refine lv_goto (tgt := 5) hx hb d_S_serversOf_40 (by decide) ?_
      refine ihiv _ (by omega) ?_
      have e_1 : fo (mc_svf pla q) (iv + 1) 0 = (fo (mc_svf pla q) iv 0) ||| ((((pla iv) >>> ((nI q).toInt64 &&& 63)) &&& 1) <<< ((nI iv).toInt64 &&& 63)) := rfl
      exact ⟨by (try rw [e_1]); exact lv_sub hl [2, 3, 1, 0] rfl, trivial⟩
  · have hdone : True := trivial
    have e_2 : fo (mc_svf pla q) 0 0 = 0 := rfl
    have e_3 : nI 0 = 0 := rfl
    exact ⟨by (try rw [e_2]); (try rw [e_3]); exact lv_sub hl [2, 3, 1, 0] rfl, trivial⟩
set_option maxHeartbeats 4000000 in
set_option maxRecDepth 100000 in
theorem c_isBetter (l : Launch) (dC : Nat → ClassId) (dI : Nat → Nat → Nat) (ad : Nat → Nat) (ca : Nat → ClassId) (pk : Int32) (pp : Int32) (bw : Int32) (bs : Int64) (wt : Int32) (sm : Int64) : Met l y_S_isBetterThanBest w_S_isBetterThanBest ({ frames := 0, cells := 0, slots := 0, locals := 0 }) (kr_P [.ref (ad 1), .int wt, .long sm] (dC, dI) vC [(ad 1, eS ad pk pp bw bs)] []) (vp_Si (fun r => r = if (m_bet wt sm bw bs) = true then 1 else 0)) 0 0 (fun _ => False) := by
  refine Met.ofW (cc := b_S_isBetterThanBest) (maxL := 8) (ret := (some .boolean)) (by decide) rfl ?_
  intro p e s m args below meth c s₁ B hml hv
  obtain ⟨rfl, hP, hK⟩ := hv
  have hx := B.exec
  have hb := B.bytes
  have hr := B.returns
  have hts := atoms_spec (ws := w_S_isBetterThanBest) B.pre
  have hlocks := B.notSynchronized
  have hown : s.vm.findClass R_S = some m.cls := findClass_of_methodNamed B.named
  have hl := lv_entry ([.ref (ad 1), .int wt, .long sm]) (n := 8) (Nat.le_of_ble_eq_true rfl)
  rw [lg_entry_eq]
  generalize (lg_sl ([.ref (ad 1), .int wt, .long sm]) ++ List.replicate (8 - (lg_sl ([.ref (ad 1), .int wt, .long sm])).length) Slot.unset).toArray = ls at hl ⊢
  have hl : lv_has ls 8 [(0, .ref (ad 1)), (1, .int wt), (2, .long sm)] := hl
  refine lv_lload_n hx hb d_S_isBetterThanBest_0 rfl (lv_at hl 2 rfl) ?_
  refine lv_aload_n hx hb d_S_isBetterThanBest_1 rfl (lv_at hl 0 rfl) ?_
  refine va_get (D := (dC, dI)) (ci := 2) (v := .long bs) (C := R_S) (T := F_S) (N := 8) hx hb hts (hin_of in_S) hown hK hP 0 rfl rfl 7 (by decide) (hw_of hts mw_149) (fun _ h9 => h9) rfl d_S_isBetterThanBest_2 ?_
  refine lv_lxor hx hb d_S_isBetterThanBest_5 ?_
  refine lv_lstore (lv' := [(4, .long (sm ^^^ bs)), (0, .ref (ad 1)), (1, .int wt), (2, .long sm)]) hx hb d_S_isBetterThanBest_6 hl (by decide) rfl (fun ls hl => ?_)
  refine lv_lload hx hb d_S_isBetterThanBest_8 (lv_at hl 0 rfl) ?_
  refine lv_lload hx hb d_S_isBetterThanBest_10 (lv_at hl 0 rfl) ?_
  refine lv_lneg hx hb d_S_isBetterThanBest_12 ?_
  refine lv_land hx hb d_S_isBetterThanBest_13 ?_
  refine lv_lstore (lv' := [(6, .long ((sm ^^^ bs) &&& (-(sm ^^^ bs)))), (4, .long (sm ^^^ bs)), (0, .ref (ad 1)), (1, .int wt), (2, .long sm)]) hx hb d_S_isBetterThanBest_14 hl (by decide) rfl (fun ls hl => ?_)
  refine lv_iload_n hx hb d_S_isBetterThanBest_16 rfl (lv_at hl 3 rfl) ?_
  refine lv_aload_n hx hb d_S_isBetterThanBest_17 rfl (lv_at hl 2 rfl) ?_
  refine va_get (D := (dC, dI)) (ci := 2) (v := .int bw) (C := R_S) (T := F_S) (N := 8) hx hb hts (hin_of in_S) hown hK hP 0 rfl rfl 6 (by decide) (hw_of hts mw_148) (fun _ h9 => h9) rfl d_S_isBetterThanBest_18 ?_
  refine lv_icmp_lt (tgt := 41) hx hb d_S_isBetterThanBest_21 (by decide) (fun c_21 => ?_) (fun c_21 => ?_)
  · refine lv_iconst (v := 1) hx hb d_S_isBetterThanBest_41 (by decide) ?_
    refine lv_goto (tgt := 46) hx hb d_S_isBetterThanBest_42 (by decide) ?_
    exact W.zret (v := 1) hx hb hr rfl (fun t ht hW => ⟨1, rfl, by unfold m_bet; (first | rw [decide_eq_true c_21] | rw [decide_eq_false c_21] | rw [decide_eq_false (Nat.not_lt.mpr c_21)] | rw [decide_eq_false (Nat.not_le.mpr c_21)] | rw [c_21] | skip); rfl, ht⟩) (fun q h => by cases h) d_S_isBetterThanBest_46
  · refine lv_iload_n hx hb d_S_isBetterThanBest_24 rfl (lv_at hl 3 rfl) ?_
    refine lv_aload_n hx hb d_S_isBetterThanBest_25 rfl (lv_at hl 2 rfl) ?_
    refine va_get (D := (dC, dI)) (ci := 2) (v := .int bw) (C := R_S) (T := F_S) (N := 8) hx hb hts (hin_of in_S) hown hK hP 0 rfl rfl 6 (by decide) (hw_of hts mw_148) (fun _ h9 => h9) rfl d_S_isBetterThanBest_26 ?_
    refine lv_icmp_ne (tgt := 45) hx hb d_S_isBetterThanBest_29 (by decide) (fun c_29 => ?_) (fun c_29 => ?_)
    · refine lv_iconst (v := 0) hx hb d_S_isBetterThanBest_45 (by decide) ?_
      exact W.zret (v := 0) hx hb hr rfl (fun t ht hW => ⟨0, rfl, by unfold m_bet; (first | rw [decide_eq_true c_21] | rw [decide_eq_false c_21] | rw [decide_eq_false (Nat.not_lt.mpr c_21)] | rw [decide_eq_false (Nat.not_le.mpr c_21)] | rw [c_21] | skip); (first | rw [decide_eq_true c_29] | rw [decide_eq_false c_29] | rw [decide_eq_false (Nat.not_lt.mpr c_29)] | rw [decide_eq_false (Nat.not_le.mpr c_29)] | rw [c_29] | skip); rfl, ht⟩) (fun q h => by cases h) d_S_isBetterThanBest_46
    · refine lv_lload_n hx hb d_S_isBetterThanBest_32 rfl (lv_at hl 4 rfl) ?_
      refine lv_lload hx hb d_S_isBetterThanBest_33 (lv_at hl 0 rfl) ?_
      refine lv_land hx hb d_S_isBetterThanBest_35 ?_
      refine lv_lconst (v := 0) hx hb d_S_isBetterThanBest_36 rfl ?_
      refine k_leq (tgt := 45) hx hb d_S_isBetterThanBest_37 d_S_isBetterThanBest_38 (by decide) (fun c_37 => ?_) (fun c_37 => ?_)
      · refine lv_iconst (v := 0) hx hb d_S_isBetterThanBest_45 (by decide) ?_
        exact W.zret (v := 0) hx hb hr rfl (fun t ht hW => ⟨0, rfl, by unfold m_bet; (first | rw [decide_eq_true c_21] | rw [decide_eq_false c_21] | rw [decide_eq_false (Nat.not_lt.mpr c_21)] | rw [decide_eq_false (Nat.not_le.mpr c_21)] | rw [c_21] | skip); (first | rw [decide_eq_true c_29] | rw [decide_eq_false c_29] | rw [decide_eq_false (Nat.not_lt.mpr c_29)] | rw [decide_eq_false (Nat.not_le.mpr c_29)] | rw [c_29] | skip); (first | rw [decide_eq_true c_37] | rw [decide_eq_false c_37] | rw [decide_eq_false (Nat.not_lt.mpr c_37)] | rw [decide_eq_false (Nat.not_le.mpr c_37)] | rw [c_37] | skip); rfl, ht⟩) (fun q h => by cases h) d_S_isBetterThanBest_46
      · refine lv_iconst (v := 1) hx hb d_S_isBetterThanBest_41 (by decide) ?_
        refine lv_goto (tgt := 46) hx hb d_S_isBetterThanBest_42 (by decide) ?_
        exact W.zret (v := 1) hx hb hr rfl (fun t ht hW => ⟨1, rfl, by unfold m_bet; (first | rw [decide_eq_true c_21] | rw [decide_eq_false c_21] | rw [decide_eq_false (Nat.not_lt.mpr c_21)] | rw [decide_eq_false (Nat.not_le.mpr c_21)] | rw [c_21] | skip); (first | rw [decide_eq_true c_29] | rw [decide_eq_false c_29] | rw [decide_eq_false (Nat.not_lt.mpr c_29)] | rw [decide_eq_false (Nat.not_le.mpr c_29)] | rw [c_29] | skip); (first | rw [decide_eq_true c_37] | rw [decide_eq_false c_37] | rw [decide_eq_false (Nat.not_lt.mpr c_37)] | rw [decide_eq_false (Nat.not_le.mpr c_37)] | rw [c_37] | skip); rfl, ht⟩) (fun q h => by cases h) d_S_isBetterThanBest_46
set_option maxHeartbeats 4000000 in
set_option maxRecDepth 100000 in
theorem c_isDominated (l : Launch) (dC : Nat → ClassId) (dI : Nat → Nat → Nat) (ad : Nat → Nat) (ca : Nat → ClassId) (pk : Int32) (pp : Int32) (bw : Int32) (bs : Int64) (cn : Nat) (hc : cn ≤ 63) (due : Int64) (lon : Int64) (wei : Nat → Int32) (pla : Nat → Int64) (k : Nat) (op : Int64) (us : Int64) (hk : k < cn) : Met l y_S_isDominated w_S_isDominated ({ frames := 0, cells := 0, slots := 0, locals := 0 }) (kr_P [.ref (ad 1), .int (nI k), .long op, .long us] (dC, dI) vC [(ad 1, eS ad pk pp bw bs), (ad 2, eT ad (nI cn) due lon), (ad 7, eI 81 (ca 7) wei), (ad 13, eL 81 (ca 13) pla)] [(ca 7, .int), (ca 13, .long)]) (vp_Si (fun r => r = if (m_dom cn pla wei k op us) = true then 1 else 0)) 0 0 (fun _ => False) := by
  refine Met.ofW (cc := b_S_isDominated) (maxL := 10) (ret := (some .boolean)) (by decide) rfl ?_
  intro p e s m args below meth c s₁ B hml hv
  obtain ⟨rfl, hP, hK⟩ := hv
  have hx := B.exec
  have hb := B.bytes
  have hr := B.returns
  have hts := atoms_spec (ws := w_S_isDominated) B.pre
  have hlocks := B.notSynchronized
  have hown : s.vm.findClass R_S = some m.cls := findClass_of_methodNamed B.named
  have hl := lv_entry ([.ref (ad 1), .int (nI k), .long op, .long us]) (n := 10) (Nat.le_of_ble_eq_true rfl)
  rw [lg_entry_eq]
  generalize (lg_sl ([.ref (ad 1), .int (nI k), .long op, .long us]) ++ List.replicate (10 - (lg_sl ([.ref (ad 1), .int (nI k), .long op, .long us])).length) Slot.unset).toArray = ls at hl ⊢
  have hl : lv_has ls 10 [(0, .ref (ad 1)), (1, .int (nI k)), (2, .long op), (4, .long us)] := hl
  refine lv_aload_n hx hb d_S_isDominated_0 rfl (lv_at hl 0 rfl) ?_
  refine va_get (D := (dC, dI)) (ci := 2) (v := .ref (ad 2)) (C := R_S) (T := F_S) (N := 8) hx hb hts (hin_of in_S) hown hK hP 0 rfl rfl 3 (by decide) (hw_of hts mw_144) (fun _ h9 => h9) rfl d_S_isDominated_1 ?_
  refine va_get (D := (dC, dI)) (ci := 0) (v := .ref (ad 13)) (C := R_T) (T := F_T) (N := 10) hx hb hts (hin_of in_T) hown hK hP 1 rfl rfl 4 (by decide) (hw_of hts mw_108) (fun _ h9 => h9) rfl d_S_isDominated_4 ?_
  refine lv_iload_n hx hb d_S_isDominated_7 rfl (lv_at hl 1 rfl) ?_
  refine k_lald (k := k) hx hb hK hP 3 1 rfl rfl rfl (by omega) (by decide) d_S_isDominated_8 ?_
  refine lv_lload_n hx hb d_S_isDominated_9 rfl (lv_at hl 2 rfl) ?_
  refine lv_land hx hb d_S_isDominated_10 ?_
  refine lv_lstore (lv' := [(6, .long ((pla k) &&& op)), (0, .ref (ad 1)), (1, .int (nI k)), (2, .long op), (4, .long us)]) hx hb d_S_isDominated_11 hl (by decide) rfl (fun ls hl => ?_)
  refine lv_lload hx hb d_S_isDominated_13 (lv_at hl 0 rfl) ?_
  refine lv_lconst (v := 0) hx hb d_S_isDominated_15 rfl ?_
  refine k_lne (tgt := 22) hx hb d_S_isDominated_16 d_S_isDominated_17 (by decide) (fun c_16 => ?_) (fun c_16 => ?_)
  · refine lv_iconst (v := 0) hx hb d_S_isDominated_22 (by decide) ?_
    refine lv_istore (lv' := [(8, .int 0), (6, .long ((pla k) &&& op)), (0, .ref (ad 1)), (1, .int (nI k)), (2, .long op), (4, .long us)]) hx hb d_S_isDominated_23 hl (by decide) rfl (fun ls hl => ?_)
    refine k_loopR (fun jv ls => lv_has ls 10 [(0, .ref (ad 1)), (1, .int (nI k)), (2, .long op), (4, .long us), (6, .long ((pla k) &&& op)), (8, .int (nI jv))] ∧ ∀ a, a < jv → m_domP pla wei k op us a = false) cn ?_ 0 _ (Nat.zero_le _) ?_
    · intro jv ls hijv hI ihjv
      obtain ⟨hl, hno⟩ := hI
      refine lv_iload hx hb d_S_isDominated_25 (lv_at hl 5 rfl) ?_
      refine lv_aload_n hx hb d_S_isDominated_27 rfl (lv_at hl 0 rfl) ?_
      refine va_get (D := (dC, dI)) (ci := 2) (v := .ref (ad 2)) (C := R_S) (T := F_S) (N := 8) hx hb hts (hin_of in_S) hown hK hP 0 rfl rfl 3 (by decide) (hw_of hts mw_144) (fun _ h9 => h9) rfl d_S_isDominated_28 ?_
      refine va_get (D := (dC, dI)) (ci := 0) (v := .int (nI cn)) (C := R_T) (T := F_T) (N := 10) hx hb hts (hin_of in_T) hown hK hP 1 rfl rfl 5 (by decide) (hw_of hts mw_109) (fun _ h9 => h9) rfl d_S_isDominated_31 ?_
      refine k_ge (a := jv) (b := cn) (tgt := 129) hx hb rfl rfl (by omega) (by omega) d_S_isDominated_34 (by decide) (fun c_34 => ?_) (fun c_34 => ?_)
      · obtain rfl : cn = jv := by omega
        refine lv_iconst (v := 0) hx hb d_S_isDominated_129 (by decide) ?_
        exact W.zret (v := 0) hx hb hr rfl (fun t ht hW => ⟨0, rfl, by unfold m_dom; rw [decide_eq_false c_16, exn_false hno]; rfl, ht⟩) (fun q h => by cases h) d_S_isDominated_130
      · refine lv_lload hx hb d_S_isDominated_37 (lv_at hl 3 rfl) ?_
        refine lv_iload hx hb d_S_isDominated_39 (lv_at hl 5 rfl) ?_
        refine k_bit (i := jv) (tgt := 75) hx hb rfl (by omega) d_S_isDominated_41 d_S_isDominated_42 d_S_isDominated_43 d_S_isDominated_44 d_S_isDominated_45 d_S_isDominated_46 (by decide) (fun b_41 => ?_) (fun b_41 => ?_)
        · refine lv_iconst (v := 0) hx hb d_S_isDominated_75 (by decide) ?_
          refine lv_istore (lv' := [(9, .int 0), (0, .ref (ad 1)), (1, .int (nI k)), (2, .long op), (4, .long us), (6, .long ((pla k) &&& op)), (8, .int (nI jv))]) hx hb d_S_isDominated_76 hl (by decide) rfl (fun ls hl => ?_)
          refine lv_iload hx hb d_S_isDominated_78 (lv_at hl 0 rfl) ?_
          refine lv_if_eq (tgt := 123) hx hb d_S_isDominated_80 (by decide) (fun _ => ?_) (fun h => absurd (by decide) h)
          refine lv_iinc (v := nI (jv + 1)) (lv' := [(8, .int (nI (jv + 1))), (9, .int 0), (0, .ref (ad 1)), (1, .int (nI k)), (2, .long op), (4, .long us), (6, .long ((pla k) &&& op))]) hx hb d_S_isDominated_123 hl (k := 6) rfl (k_inc _) (by decide) rfl (fun ls hl => ?_)
          refine lv_goto (tgt := 25) hx hb d_S_isDominated_126 (by decide) ?_
          refine ihjv _ (by omega) ?_
          exact ⟨lv_sub hl [2, 3, 4, 5, 6, 0] rfl, lt_s hno (by unfold m_domP; (first | rw [decide_eq_true c_16] | rw [decide_eq_false c_16] | rw [decide_eq_false (Nat.not_lt.mpr c_16)] | rw [decide_eq_false (Nat.not_le.mpr c_16)] | rw [c_16] | skip); (first | rw [decide_eq_true c_34] | rw [decide_eq_false c_34] | rw [decide_eq_false (Nat.not_lt.mpr c_34)] | rw [decide_eq_false (Nat.not_le.mpr c_34)] | rw [c_34] | skip); (first | rw [decide_eq_true b_41] | rw [decide_eq_false b_41] | rw [decide_eq_false (Nat.not_lt.mpr b_41)] | rw [decide_eq_false (Nat.not_le.mpr b_41)] | rw [b_41] | skip); simp)⟩
        · refine lv_lload hx hb d_S_isDominated_49 (lv_at hl 4 rfl) ?_
          refine lv_aload_n hx hb d_S_isDominated_51 rfl (lv_at hl 0 rfl) ?_
          refine va_get (D := (dC, dI)) (ci := 2) (v := .ref (ad 2)) (C := R_S) (T := F_S) (N := 8) hx hb hts (hin_of in_S) hown hK hP 0 rfl rfl 3 (by decide) (hw_of hts mw_144) (fun _ h9 => h9) rfl d_S_isDominated_52 ?_
          refine va_get (D := (dC, dI)) (ci := 0) (v := .ref (ad 13)) (C := R_T) (T := F_T) (N := 10) hx hb hts (hin_of in_T) hown hK hP 1 rfl rfl 4 (by decide) (hw_of hts mw_108) (fun _ h9 => h9) rfl d_S_isDominated_55 ?_
          refine lv_iload hx hb d_S_isDominated_58 (lv_at hl 5 rfl) ?_
          refine k_lald (k := jv) hx hb hK hP 3 1 rfl rfl rfl (by omega) (by decide) d_S_isDominated_60 ?_
          refine lv_ldc2 hx hb hown (hw_of hts mw_280) d_S_isDominated_61 ?_
          refine lv_lxor hx hb d_S_isDominated_64 ?_
          refine lv_land hx hb d_S_isDominated_65 ?_
          refine lv_lconst (v := 0) hx hb d_S_isDominated_66 rfl ?_
          refine k_lne (tgt := 75) hx hb d_S_isDominated_67 d_S_isDominated_68 (by decide) (fun c_67 => ?_) (fun c_67 => ?_)
          · refine lv_iconst (v := 0) hx hb d_S_isDominated_75 (by decide) ?_
            refine lv_istore (lv' := [(9, .int 0), (0, .ref (ad 1)), (1, .int (nI k)), (2, .long op), (4, .long us), (6, .long ((pla k) &&& op)), (8, .int (nI jv))]) hx hb d_S_isDominated_76 hl (by decide) rfl (fun ls hl => ?_)
            refine lv_iload hx hb d_S_isDominated_78 (lv_at hl 0 rfl) ?_
            refine lv_if_eq (tgt := 123) hx hb d_S_isDominated_80 (by decide) (fun _ => ?_) (fun h => absurd (by decide) h)
            refine lv_iinc (v := nI (jv + 1)) (lv' := [(8, .int (nI (jv + 1))), (9, .int 0), (0, .ref (ad 1)), (1, .int (nI k)), (2, .long op), (4, .long us), (6, .long ((pla k) &&& op))]) hx hb d_S_isDominated_123 hl (k := 6) rfl (k_inc _) (by decide) rfl (fun ls hl => ?_)
            refine lv_goto (tgt := 25) hx hb d_S_isDominated_126 (by decide) ?_
            refine ihjv _ (by omega) ?_
            exact ⟨lv_sub hl [2, 3, 4, 5, 6, 0] rfl, lt_s hno (by unfold m_domP; (first | rw [decide_eq_true c_16] | rw [decide_eq_false c_16] | rw [decide_eq_false (Nat.not_lt.mpr c_16)] | rw [decide_eq_false (Nat.not_le.mpr c_16)] | rw [c_16] | skip); (first | rw [decide_eq_true c_34] | rw [decide_eq_false c_34] | rw [decide_eq_false (Nat.not_lt.mpr c_34)] | rw [decide_eq_false (Nat.not_le.mpr c_34)] | rw [c_34] | skip); (first | rw [decide_eq_true b_41] | rw [decide_eq_false b_41] | rw [decide_eq_false (Nat.not_lt.mpr b_41)] | rw [decide_eq_false (Nat.not_le.mpr b_41)] | rw [b_41] | skip); (first | rw [decide_eq_true c_67] | rw [decide_eq_false c_67] | rw [decide_eq_false (Nat.not_lt.mpr c_67)] | rw [decide_eq_false (Nat.not_le.mpr c_67)] | rw [c_67] | skip); simp)⟩
          · refine lv_iconst (v := 1) hx hb d_S_isDominated_71 (by decide) ?_
            refine lv_goto (tgt := 76) hx hb d_S_isDominated_72 (by decide) ?_
            refine lv_istore (lv' := [(9, .int 1), (0, .ref (ad 1)), (1, .int (nI k)), (2, .long op), (4, .long us), (6, .long ((pla k) &&& op)), (8, .int (nI jv))]) hx hb d_S_isDominated_76 hl (by decide) rfl (fun ls hl => ?_)
            refine lv_iload hx hb d_S_isDominated_78 (lv_at hl 0 rfl) ?_
            refine lv_if_eq (tgt := 123) hx hb d_S_isDominated_80 (by decide) (fun h => absurd h (by decide)) (fun _ => ?_)
            refine lv_aload_n hx hb d_S_isDominated_83 rfl (lv_at hl 1 rfl) ?_
            refine va_get (D := (dC, dI)) (ci := 2) (v := .ref (ad 7)) (C := R_S) (T := F_S) (N := 8) hx hb hts (hin_of in_S) hown hK hP 0 rfl rfl 4 (by decide) (hw_of hts mw_146) (fun _ h9 => h9) rfl d_S_isDominated_84 ?_
            refine lv_iload hx hb d_S_isDominated_87 (lv_at hl 6 rfl) ?_
            refine k_iald (k := jv) hx hb hK hP 2 0 rfl rfl rfl (by omega) (by decide) d_S_isDominated_89 ?_
            refine lv_aload_n hx hb d_S_isDominated_90 rfl (lv_at hl 1 rfl) ?_
            refine va_get (D := (dC, dI)) (ci := 2) (v := .ref (ad 7)) (C := R_S) (T := F_S) (N := 8) hx hb hts (hin_of in_S) hown hK hP 0 rfl rfl 4 (by decide) (hw_of hts mw_146) (fun _ h9 => h9) rfl d_S_isDominated_91 ?_
            refine lv_iload_n hx hb d_S_isDominated_94 rfl (lv_at hl 2 rfl) ?_
            refine k_iald (k := k) hx hb hK hP 2 0 rfl rfl rfl (by omega) (by decide) d_S_isDominated_95 ?_
            refine lv_icmp_lt (tgt := 121) hx hb d_S_isDominated_96 (by decide) (fun c_96 => ?_) (fun c_96 => ?_)
            · refine lv_iconst (v := 1) hx hb d_S_isDominated_121 (by decide) ?_
              exact W.zret (v := 1) hx hb hr rfl (fun t ht hW => ⟨1, rfl, by unfold m_dom; rw [exn_true (j := jv) (by omega) (by unfold m_domP; (first | rw [decide_eq_true c_16] | rw [decide_eq_false c_16] | rw [decide_eq_false (Nat.not_lt.mpr c_16)] | rw [decide_eq_false (Nat.not_le.mpr c_16)] | rw [c_16] | skip); (first | rw [decide_eq_true c_34] | rw [decide_eq_false c_34] | rw [decide_eq_false (Nat.not_lt.mpr c_34)] | rw [decide_eq_false (Nat.not_le.mpr c_34)] | rw [c_34] | skip); (first | rw [decide_eq_true b_41] | rw [decide_eq_false b_41] | rw [decide_eq_false (Nat.not_lt.mpr b_41)] | rw [decide_eq_false (Nat.not_le.mpr b_41)] | rw [b_41] | skip); (first | rw [decide_eq_true c_67] | rw [decide_eq_false c_67] | rw [decide_eq_false (Nat.not_lt.mpr c_67)] | rw [decide_eq_false (Nat.not_le.mpr c_67)] | rw [c_67] | skip); (first | rw [decide_eq_true c_96] | rw [decide_eq_false c_96] | rw [decide_eq_false (Nat.not_lt.mpr c_96)] | rw [decide_eq_false (Nat.not_le.mpr c_96)] | rw [c_96] | skip); rfl), Bool.or_true]; rfl, ht⟩) (fun q h => by cases h) d_S_isDominated_122
            · refine lv_aload_n hx hb d_S_isDominated_99 rfl (lv_at hl 1 rfl) ?_
              refine va_get (D := (dC, dI)) (ci := 2) (v := .ref (ad 7)) (C := R_S) (T := F_S) (N := 8) hx hb hts (hin_of in_S) hown hK hP 0 rfl rfl 4 (by decide) (hw_of hts mw_146) (fun _ h9 => h9) rfl d_S_isDominated_100 ?_
              refine lv_iload hx hb d_S_isDominated_103 (lv_at hl 6 rfl) ?_
              refine k_iald (k := jv) hx hb hK hP 2 0 rfl rfl rfl (by omega) (by decide) d_S_isDominated_105 ?_
              refine lv_aload_n hx hb d_S_isDominated_106 rfl (lv_at hl 1 rfl) ?_
              refine va_get (D := (dC, dI)) (ci := 2) (v := .ref (ad 7)) (C := R_S) (T := F_S) (N := 8) hx hb hts (hin_of in_S) hown hK hP 0 rfl rfl 4 (by decide) (hw_of hts mw_146) (fun _ h9 => h9) rfl d_S_isDominated_107 ?_
              refine lv_iload_n hx hb d_S_isDominated_110 rfl (lv_at hl 2 rfl) ?_
              refine k_iald (k := k) hx hb hK hP 2 0 rfl rfl rfl (by omega) (by decide) d_S_isDominated_111 ?_
              refine lv_icmp_ne (tgt := 123) hx hb d_S_isDominated_112 (by decide) (fun c_112 => ?_) (fun c_112 => ?_)
              · refine lv_iinc (v := nI (jv + 1)) (lv' := [(8, .int (nI (jv + 1))), (9, .int 1), (0, .ref (ad 1)), (1, .int (nI k)), (2, .long op), (4, .long us), (6, .long ((pla k) &&& op))]) hx hb d_S_isDominated_123 hl (k := 6) rfl (k_inc _) (by decide) rfl (fun ls hl => ?_)
                refine lv_goto (tgt := 25) hx hb d_S_isDominated_126 (by decide) ?_
                refine ihjv _ (by omega) ?_
                exact ⟨lv_sub hl [2, 3, 4, 5, 6, 0] rfl, lt_s hno (by unfold m_domP; (first | rw [decide_eq_true c_16] | rw [decide_eq_false c_16] | rw [decide_eq_false (Nat.not_lt.mpr c_16)] | rw [decide_eq_false (Nat.not_le.mpr c_16)] | rw [c_16] | skip); (first | rw [decide_eq_true c_34] | rw [decide_eq_false c_34] | rw [decide_eq_false (Nat.not_lt.mpr c_34)] | rw [decide_eq_false (Nat.not_le.mpr c_34)] | rw [c_34] | skip); (first | rw [decide_eq_true b_41] | rw [decide_eq_false b_41] | rw [decide_eq_false (Nat.not_lt.mpr b_41)] | rw [decide_eq_false (Nat.not_le.mpr b_41)] | rw [b_41] | skip); (first | rw [decide_eq_true c_67] | rw [decide_eq_false c_67] | rw [decide_eq_false (Nat.not_lt.mpr c_67)] | rw [decide_eq_false (Nat.not_le.mpr c_67)] | rw [c_67] | skip); (first | rw [decide_eq_true c_96] | rw [decide_eq_false c_96] | rw [decide_eq_false (Nat.not_lt.mpr c_96)] | rw [decide_eq_false (Nat.not_le.mpr c_96)] | rw [c_96] | skip); (first | rw [decide_eq_true c_112] | rw [decide_eq_false c_112] | rw [decide_eq_false (Nat.not_lt.mpr c_112)] | rw [decide_eq_false (Nat.not_le.mpr c_112)] | rw [c_112] | skip); simp)⟩
              · refine lv_iload hx hb d_S_isDominated_115 (lv_at hl 6 rfl) ?_
                refine lv_iload_n hx hb d_S_isDominated_117 rfl (lv_at hl 2 rfl) ?_
                refine k_ge (a := jv) (b := k) (tgt := 123) hx hb rfl rfl (by omega) (by omega) d_S_isDominated_118 (by decide) (fun c_118 => ?_) (fun c_118 => ?_)
                · refine lv_iinc (v := nI (jv + 1)) (lv' := [(8, .int (nI (jv + 1))), (9, .int 1), (0, .ref (ad 1)), (1, .int (nI k)), (2, .long op), (4, .long us), (6, .long ((pla k) &&& op))]) hx hb d_S_isDominated_123 hl (k := 6) rfl (k_inc _) (by decide) rfl (fun ls hl => ?_)
                  refine lv_goto (tgt := 25) hx hb d_S_isDominated_126 (by decide) ?_
                  refine ihjv _ (by omega) ?_
                  exact ⟨lv_sub hl [2, 3, 4, 5, 6, 0] rfl, lt_s hno (by unfold m_domP; (first | rw [decide_eq_true c_16] | rw [decide_eq_false c_16] | rw [decide_eq_false (Nat.not_lt.mpr c_16)] | rw [decide_eq_false (Nat.not_le.mpr c_16)] | rw [c_16] | skip); (first | rw [decide_eq_true c_34] | rw [decide_eq_false c_34] | rw [decide_eq_false (Nat.not_lt.mpr c_34)] | rw [decide_eq_false (Nat.not_le.mpr c_34)] | rw [c_34] | skip); (first | rw [decide_eq_true b_41] | rw [decide_eq_false b_41] | rw [decide_eq_false (Nat.not_lt.mpr b_41)] | rw [decide_eq_false (Nat.not_le.mpr b_41)] | rw [b_41] | skip); (first | rw [decide_eq_true c_67] | rw [decide_eq_false c_67] | rw [decide_eq_false (Nat.not_lt.mpr c_67)] | rw [decide_eq_false (Nat.not_le.mpr c_67)] | rw [c_67] | skip); (first | rw [decide_eq_true c_96] | rw [decide_eq_false c_96] | rw [decide_eq_false (Nat.not_lt.mpr c_96)] | rw [decide_eq_false (Nat.not_le.mpr c_96)] | rw [c_96] | skip); (first | rw [decide_eq_true c_112] | rw [decide_eq_false c_112] | rw [decide_eq_false (Nat.not_lt.mpr c_112)] | rw [decide_eq_false (Nat.not_le.mpr c_112)] | rw [c_112] | skip); (first | rw [decide_eq_true c_118] | rw [decide_eq_false c_118] | rw [decide_eq_false (Nat.not_lt.mpr c_118)] | rw [decide_eq_false (Nat.not_le.mpr c_118)] | rw [c_118] | skip); simp)⟩
                · refine lv_iconst (v := 1) hx hb d_S_isDominated_121 (by decide) ?_
                  exact W.zret (v := 1) hx hb hr rfl (fun t ht hW => ⟨1, rfl, by unfold m_dom; rw [exn_true (j := jv) (by omega) (by unfold m_domP; (first | rw [decide_eq_true c_16] | rw [decide_eq_false c_16] | rw [decide_eq_false (Nat.not_lt.mpr c_16)] | rw [decide_eq_false (Nat.not_le.mpr c_16)] | rw [c_16] | skip); (first | rw [decide_eq_true c_34] | rw [decide_eq_false c_34] | rw [decide_eq_false (Nat.not_lt.mpr c_34)] | rw [decide_eq_false (Nat.not_le.mpr c_34)] | rw [c_34] | skip); (first | rw [decide_eq_true b_41] | rw [decide_eq_false b_41] | rw [decide_eq_false (Nat.not_lt.mpr b_41)] | rw [decide_eq_false (Nat.not_le.mpr b_41)] | rw [b_41] | skip); (first | rw [decide_eq_true c_67] | rw [decide_eq_false c_67] | rw [decide_eq_false (Nat.not_lt.mpr c_67)] | rw [decide_eq_false (Nat.not_le.mpr c_67)] | rw [c_67] | skip); (first | rw [decide_eq_true c_96] | rw [decide_eq_false c_96] | rw [decide_eq_false (Nat.not_lt.mpr c_96)] | rw [decide_eq_false (Nat.not_le.mpr c_96)] | rw [c_96] | skip); (first | rw [decide_eq_true c_112] | rw [decide_eq_false c_112] | rw [decide_eq_false (Nat.not_lt.mpr c_112)] | rw [decide_eq_false (Nat.not_le.mpr c_112)] | rw [c_112] | skip); (first | rw [decide_eq_true c_118] | rw [decide_eq_false c_118] | rw [decide_eq_false (Nat.not_lt.mpr c_118)] | rw [decide_eq_false (Nat.not_le.mpr c_118)] | rw [c_118] | skip); rfl), Bool.or_true]; rfl, ht⟩) (fun q h => by cases h) d_S_isDominated_122
    · have hdone : True := trivial
      have e_1 : nI 0 = 0 := rfl
      exact ⟨by (try rw [e_1]); exact lv_sub hl [2, 3, 4, 5, 1, 0] rfl, lt_0⟩
  · refine lv_iconst (v := 1) hx hb d_S_isDominated_20 (by decide) ?_
    exact W.zret (v := 1) hx hb hr rfl (fun t ht hW => ⟨1, rfl, by unfold m_dom; rw [decide_eq_true c_16]; rfl, ht⟩) (fun q h => by cases h) d_S_isDominated_21
set_option maxHeartbeats 4000000 in
set_option maxRecDepth 100000 in
theorem c_withoutDominated (l : Launch) (dC : Nat → ClassId) (dI : Nat → Nat → Nat) (ad : Nat → Nat) (ca : Nat → ClassId) (pk : Int32) (pp : Int32) (bw : Int32) (bs : Int64) (cn : Nat) (hc : cn ≤ 63) (due : Int64) (lon : Int64) (wei : Nat → Int32) (pla : Nat → Int64) (op : Int64) (fr : Int64) : Met l y_S_withoutDominated w_S_withoutDominated ({ frames := 1, cells := 0, slots := 0, locals := 29 }) (kr_P [.ref (ad 1), .long op, .long fr] (dC, dI) vC [(ad 1, eS ad pk pp bw bs), (ad 2, eT ad (nI cn) due lon), (ad 7, eI 81 (ca 7) wei), (ad 13, eL 81 (ca 13) pla)] [(ca 7, .int), (ca 13, .long)]) (vp_Sl (fun r => r = m_wd cn pla wei op fr)) 0 0 (fun _ => False) := by
  refine Met.ofW (cc := b_S_withoutDominated) (maxL := 8) (ret := (some .long)) (by decide) rfl ?_
  intro p e s m args below meth c s₁ B hml hv
  obtain ⟨rfl, hP, hK⟩ := hv
  have hx := B.exec
  have hb := B.bytes
  have hr := B.returns
  have hts := atoms_spec (ws := w_S_withoutDominated) B.pre
  have hlocks := B.notSynchronized
  have hown : s.vm.findClass R_S = some m.cls := findClass_of_methodNamed B.named
  have hl := lv_entry ([.ref (ad 1), .long op, .long fr]) (n := 8) (Nat.le_of_ble_eq_true rfl)
  rw [lg_entry_eq]
  generalize (lg_sl ([.ref (ad 1), .long op, .long fr]) ++ List.replicate (8 - (lg_sl ([.ref (ad 1), .long op, .long fr])).length) Slot.unset).toArray = ls at hl ⊢
  have hl : lv_has ls 8 [(0, .ref (ad 1)), (1, .long op), (3, .long fr)] := hl
  refine lv_lload_n hx hb d_S_withoutDominated_0 rfl (lv_at hl 2 rfl) ?_
  refine lv_lstore (lv' := [(5, .long fr), (0, .ref (ad 1)), (1, .long op), (3, .long fr)]) hx hb d_S_withoutDominated_1 hl (by decide) rfl (fun ls hl => ?_)
  refine lv_iconst (v := 0) hx hb d_S_withoutDominated_3 (by decide) ?_
  refine lv_istore (lv' := [(7, .int 0), (5, .long fr), (0, .ref (ad 1)), (1, .long op), (3, .long fr)]) hx hb d_S_withoutDominated_4 hl (by decide) rfl (fun ls hl => ?_)
  refine k_loopR (fun iv ls => lv_has ls 8 [(0, .ref (ad 1)), (1, .long op), (3, .long fr), (5, .long (fo (m_wdf cn pla wei op fr) iv fr)), (7, .int (nI iv))] ∧ True) cn ?_ 0 _ (Nat.zero_le _) ?_
  · intro iv ls hiiv hI ihiv
    obtain ⟨hl, -⟩ := hI
    refine lv_iload hx hb d_S_withoutDominated_6 (lv_at hl 4 rfl) ?_
    refine lv_aload_n hx hb d_S_withoutDominated_8 rfl (lv_at hl 0 rfl) ?_
    refine va_get (D := (dC, dI)) (ci := 2) (v := .ref (ad 2)) (C := R_S) (T := F_S) (N := 8) hx hb hts (hin_of in_S) hown hK hP 0 rfl rfl 3 (by decide) (hw_of hts mw_144) (fun _ h9 => h9) rfl d_S_withoutDominated_9 ?_
    refine va_get (D := (dC, dI)) (ci := 0) (v := .int (nI cn)) (C := R_T) (T := F_T) (N := 10) hx hb hts (hin_of in_T) hown hK hP 1 rfl rfl 5 (by decide) (hw_of hts mw_109) (fun _ h9 => h9) rfl d_S_withoutDominated_12 ?_
    refine k_ge (a := iv) (b := cn) (tgt := 60) hx hb rfl rfl (by omega) (by omega) d_S_withoutDominated_15 (by decide) (fun c_15 => ?_) (fun c_15 => ?_)
    · obtain rfl : cn = iv := by omega
      refine lv_lload hx hb d_S_withoutDominated_60 (lv_at hl 3 rfl) ?_
      exact W.lret (v := fo (m_wdf cn pla wei op fr) cn fr) hx hb hr (fun t ht hW => ⟨fo (m_wdf cn pla wei op fr) cn fr, rfl, rfl, ht⟩) (fun q h => by cases h) d_S_withoutDominated_62
    · refine lv_lload_n hx hb d_S_withoutDominated_18 rfl (lv_at hl 2 rfl) ?_
      refine lv_iload hx hb d_S_withoutDominated_19 (lv_at hl 4 rfl) ?_
      refine k_bit (i := iv) (tgt := 54) hx hb rfl (by omega) d_S_withoutDominated_21 d_S_withoutDominated_22 d_S_withoutDominated_23 d_S_withoutDominated_24 d_S_withoutDominated_25 d_S_withoutDominated_26 (by decide) (fun b_21 => ?_) (fun b_21 => ?_)
      · refine lv_iinc (v := nI (iv + 1)) (lv' := [(7, .int (nI (iv + 1))), (0, .ref (ad 1)), (1, .long op), (3, .long fr), (5, .long (fo (m_wdf cn pla wei op fr) iv fr))]) hx hb d_S_withoutDominated_54 hl (k := 4) rfl (k_inc _) (by decide) rfl (fun ls hl => ?_)
        refine lv_goto (tgt := 6) hx hb d_S_withoutDominated_57 (by decide) ?_
        refine ihiv _ (by omega) ?_
        have e_1 : fo (m_wdf cn pla wei op fr) (iv + 1) fr = fo (m_wdf cn pla wei op fr) iv fr := by simp [fo_s, m_wdf, c_15, b_21]
        exact ⟨by (try rw [e_1]); exact lv_sub hl [1, 2, 3, 4, 0] rfl, trivial⟩
      · refine lv_aload_n hx hb d_S_withoutDominated_29 rfl (lv_at hl 0 rfl) ?_
        refine lv_iload hx hb d_S_withoutDominated_30 (lv_at hl 4 rfl) ?_
        refine lv_lload_n hx hb d_S_withoutDominated_32 rfl (lv_at hl 1 rfl) ?_
        refine lv_lload hx hb d_S_withoutDominated_33 (lv_at hl 3 rfl) ?_
        have hPc := hP.sub (ws' := [(ad 1, eS ad pk pp bw bs), (ad 2, eT ad (nI cn) due lon), (ad 7, eI 81 (ca 7) wei), (ad 13, eL 81 (ca 13) pla)]) [0, 1, 2, 3] rfl
        have hKc := hK.sub (tys' := [(ca 7, .int), (ca 13, .long)]) [0, 1] rfl
        refine vp_callSi (W.runV (As := [.int (nI iv), .long op, .long (fo (m_wdf cn pla wei op fr) iv fr)]) (rest := []) ⟨hx, hb, hml, hown, hts⟩ (c_isDominated l dC dI ad ca pk pp bw bs cn hc due lon wei pla iv op (fo (m_wdf cn pla wei op fr) iv fr) (by omega)) (cwV 3 hts (gd_V mw_276 mw_278 mw_14 mw_41 mw_279) rfl rfl rfl (by decide +kernel) ⟨Nat.le_of_ble_eq_true rfl, Nat.le_of_ble_eq_true rfl⟩) (kr_V (q0 := 0) (ci := 2) hKc hPc rfl rfl) rfl rfl hl.1 rfl (lv_room (Nat.le_of_ble_eq_true rfl)) d_S_withoutDominated_35 ⟨Nat.zero_le _, Nat.zero_le _⟩) (fun r hq => ?_)
        subst hq
        refine k_beq (b := (m_dom cn pla wei iv op (fo (m_wdf cn pla wei op fr) iv fr))) (tgt := 54) hx hb d_S_withoutDominated_38 (by decide) (fun c_38 => ?_) (fun c_38 => ?_)
        · refine lv_iinc (v := nI (iv + 1)) (lv' := [(7, .int (nI (iv + 1))), (0, .ref (ad 1)), (1, .long op), (3, .long fr), (5, .long (fo (m_wdf cn pla wei op fr) iv fr))]) hx hb d_S_withoutDominated_54 hl (k := 4) rfl (k_inc _) (by decide) rfl (fun ls hl => ?_)
          refine lv_goto (tgt := 6) hx hb d_S_withoutDominated_57 (by decide) ?_
          refine ihiv _ (by omega) ?_
          have e_2 : fo (m_wdf cn pla wei op fr) (iv + 1) fr = fo (m_wdf cn pla wei op fr) iv fr := by simp [fo_s, m_wdf, c_15, b_21, c_38]
          exact ⟨by (try rw [e_2]); exact lv_sub hl [1, 2, 3, 4, 0] rfl, trivial⟩
        · refine lv_lload hx hb d_S_withoutDominated_41 (lv_at hl 3 rfl) ?_
          refine lv_lconst (v := 1) hx hb d_S_withoutDominated_43 rfl ?_
          refine lv_iload hx hb d_S_withoutDominated_44 (lv_at hl 4 rfl) ?_
          refine lv_lshl (v := zo iv) hx hb d_S_withoutDominated_46 rfl ?_
          refine lv_ldc2 hx hb hown (hw_of hts mw_280) d_S_withoutDominated_47 ?_
          refine lv_lxor hx hb d_S_withoutDominated_50 ?_
          refine lv_land hx hb d_S_withoutDominated_51 ?_
          refine lv_lstore (lv' := [(5, .long ((fo (m_wdf cn pla wei op fr) iv fr) &&& ((zo iv) ^^^ (-1)))), (0, .ref (ad 1)), (1, .long op), (3, .long fr), (7, .int (nI iv))]) hx hb d_S_withoutDominated_52 hl (by decide) rfl (fun ls hl => ?_)
          refine lv_iinc (v := nI (iv + 1)) (lv' := [(7, .int (nI (iv + 1))), (5, .long ((fo (m_wdf cn pla wei op fr) iv fr) &&& ((zo iv) ^^^ (-1)))), (0, .ref (ad 1)), (1, .long op), (3, .long fr)]) hx hb d_S_withoutDominated_54 hl (k := 4) rfl (k_inc _) (by decide) rfl (fun ls hl => ?_)
          refine lv_goto (tgt := 6) hx hb d_S_withoutDominated_57 (by decide) ?_
          refine ihiv _ (by omega) ?_
          have e_3 : fo (m_wdf cn pla wei op fr) (iv + 1) fr = (fo (m_wdf cn pla wei op fr) iv fr) &&& ((zo iv) ^^^ (-1)) := by simp [fo_s, m_wdf, c_15, b_21, c_38]
          exact ⟨by (try rw [e_3]); exact lv_sub hl [2, 3, 4, 1, 0] rfl, trivial⟩
  · have hdone : True := trivial
    have e_4 : fo (m_wdf cn pla wei op fr) 0 fr = fr := rfl
    have e_5 : nI 0 = 0 := rfl
    exact ⟨by (try rw [e_4]); (try rw [e_5]); exact lv_sub hl [2, 3, 4, 1, 0] rfl, trivial⟩
set_option maxHeartbeats 4000000 in
set_option maxRecDepth 100000 in
theorem c_lightestOf (l : Launch) (dC : Nat → ClassId) (dI : Nat → Nat → Nat) (ad : Nat → Nat) (ca : Nat → ClassId) (pk : Int32) (pp : Int32) (bw : Int32) (bs : Int64) (cn : Nat) (hc : cn ≤ 63) (due : Int64) (lon : Int64) (wei : Nat → Int32) (sm : Int64) : Met l y_S_lightestOf w_S_lightestOf ({ frames := 1, cells := 0, slots := 0, locals := 30 }) (kr_P [.ref (ad 1), .long sm] (dC, dI) vC [(ad 1, eS ad pk pp bw bs), (ad 2, eT ad (nI cn) due lon), (ad 7, eI 81 (ca 7) wei)] [(ca 7, .int)]) (vp_Si (fun r => r = m_light cn wei sm)) 0 0 (fun _ => False) := by
  refine Met.ofW (cc := b_S_lightestOf) (maxL := 5) (ret := (some .int)) (by decide) rfl ?_
  intro p e s m args below meth c s₁ B hml hv
  obtain ⟨rfl, hP, hK⟩ := hv
  have hx := B.exec
  have hb := B.bytes
  have hr := B.returns
  have hts := atoms_spec (ws := w_S_lightestOf) B.pre
  have hlocks := B.notSynchronized
  have hown : s.vm.findClass R_S = some m.cls := findClass_of_methodNamed B.named
  have hl := lv_entry ([.ref (ad 1), .long sm]) (n := 5) (Nat.le_of_ble_eq_true rfl)
  rw [lg_entry_eq]
  generalize (lg_sl ([.ref (ad 1), .long sm]) ++ List.replicate (5 - (lg_sl ([.ref (ad 1), .long sm])).length) Slot.unset).toArray = ls at hl ⊢
  have hl : lv_has ls 5 [(0, .ref (ad 1)), (1, .long sm)] := hl
  refine lv_ldc hx hb hown (hw_of hts mw_259) d_S_lightestOf_0 ?_
  refine lv_istore_n (lv' := [(3, .int 1000000), (0, .ref (ad 1)), (1, .long sm)]) hx hb d_S_lightestOf_2 rfl hl (by decide) rfl (fun ls hl => ?_)
  refine lv_iconst (v := 0) hx hb d_S_lightestOf_3 (by decide) ?_
  refine lv_istore (lv' := [(4, .int 0), (3, .int 1000000), (0, .ref (ad 1)), (1, .long sm)]) hx hb d_S_lightestOf_4 hl (by decide) rfl (fun ls hl => ?_)
  refine k_loopR (fun iv ls => lv_has ls 5 [(0, .ref (ad 1)), (1, .long sm), (3, .int (fo (m_lightf wei sm) iv 1000000)), (4, .int (nI iv))] ∧ True) cn ?_ 0 _ (Nat.zero_le _) ?_
  · intro iv ls hiiv hI ihiv
    obtain ⟨hl, -⟩ := hI
    refine lv_iload hx hb d_S_lightestOf_6 (lv_at hl 3 rfl) ?_
    refine lv_aload_n hx hb d_S_lightestOf_8 rfl (lv_at hl 0 rfl) ?_
    refine va_get (D := (dC, dI)) (ci := 2) (v := .ref (ad 2)) (C := R_S) (T := F_S) (N := 8) hx hb hts (hin_of in_S) hown hK hP 0 rfl rfl 3 (by decide) (hw_of hts mw_144) (fun _ h9 => h9) rfl d_S_lightestOf_9 ?_
    refine va_get (D := (dC, dI)) (ci := 0) (v := .int (nI cn)) (C := R_T) (T := F_T) (N := 10) hx hb hts (hin_of in_T) hown hK hP 1 rfl rfl 5 (by decide) (hw_of hts mw_109) (fun _ h9 => h9) rfl d_S_lightestOf_12 ?_
    refine k_ge (a := iv) (b := cn) (tgt := 47) hx hb rfl rfl (by omega) (by omega) d_S_lightestOf_15 (by decide) (fun c_15 => ?_) (fun c_15 => ?_)
    · obtain rfl : cn = iv := by omega
      refine lv_iload_n hx hb d_S_lightestOf_47 rfl (lv_at hl 2 rfl) ?_
      exact W.iret (v := fo (m_lightf wei sm) cn 1000000) hx hb hr (fun t ht hW => ⟨fo (m_lightf wei sm) cn 1000000, rfl, rfl, ht⟩) (fun q h => by cases h) d_S_lightestOf_48
    · refine lv_lload_n hx hb d_S_lightestOf_18 rfl (lv_at hl 1 rfl) ?_
      refine lv_iload hx hb d_S_lightestOf_19 (lv_at hl 3 rfl) ?_
      refine k_bit (i := iv) (tgt := 41) hx hb rfl (by omega) d_S_lightestOf_21 d_S_lightestOf_22 d_S_lightestOf_23 d_S_lightestOf_24 d_S_lightestOf_25 d_S_lightestOf_26 (by decide) (fun b_21 => ?_) (fun b_21 => ?_)
      · refine lv_iinc (v := nI (iv + 1)) (lv' := [(4, .int (nI (iv + 1))), (0, .ref (ad 1)), (1, .long sm), (3, .int (fo (m_lightf wei sm) iv 1000000))]) hx hb d_S_lightestOf_41 hl (k := 3) rfl (k_inc _) (by decide) rfl (fun ls hl => ?_)
        refine lv_goto (tgt := 6) hx hb d_S_lightestOf_44 (by decide) ?_
        refine ihiv _ (by omega) ?_
        have e_1 : fo (m_lightf wei sm) (iv + 1) 1000000 = fo (m_lightf wei sm) iv 1000000 := by simp [fo_s, m_lightf, c_15, b_21]
        exact ⟨by (try rw [e_1]); exact lv_sub hl [1, 2, 3, 0] rfl, trivial⟩
      · refine lv_iload_n hx hb d_S_lightestOf_29 rfl (lv_at hl 2 rfl) ?_
        refine lv_aload_n hx hb d_S_lightestOf_30 rfl (lv_at hl 0 rfl) ?_
        refine va_get (D := (dC, dI)) (ci := 2) (v := .ref (ad 7)) (C := R_S) (T := F_S) (N := 8) hx hb hts (hin_of in_S) hown hK hP 0 rfl rfl 4 (by decide) (hw_of hts mw_146) (fun _ h9 => h9) rfl d_S_lightestOf_31 ?_
        refine lv_iload hx hb d_S_lightestOf_34 (lv_at hl 3 rfl) ?_
        refine k_iald (k := iv) hx hb hK hP 2 0 rfl rfl rfl (by omega) (by decide) d_S_lightestOf_36 ?_
        refine va_mmin hx hb (by rw [hml]; exact hl.1.symm) hown (hw_of hts mw_289) (hw_of hts mw_290) (hw_of hts mw_50) (hw_of hts mw_291) (Nat.le_of_ble_eq_true rfl) (Nat.le_of_ble_eq_true rfl) (Nat.zero_le _) (Nat.zero_le _) d_S_lightestOf_37 ?_
        refine lv_istore_n (lv' := [(3, .int (if (wei iv) < (fo (m_lightf wei sm) iv 1000000) then (wei iv) else (fo (m_lightf wei sm) iv 1000000))), (0, .ref (ad 1)), (1, .long sm), (4, .int (nI iv))]) hx hb d_S_lightestOf_40 rfl hl (by decide) rfl (fun ls hl => ?_)
        refine lv_iinc (v := nI (iv + 1)) (lv' := [(4, .int (nI (iv + 1))), (3, .int (if (wei iv) < (fo (m_lightf wei sm) iv 1000000) then (wei iv) else (fo (m_lightf wei sm) iv 1000000))), (0, .ref (ad 1)), (1, .long sm)]) hx hb d_S_lightestOf_41 hl (k := 3) rfl (k_inc _) (by decide) rfl (fun ls hl => ?_)
        refine lv_goto (tgt := 6) hx hb d_S_lightestOf_44 (by decide) ?_
        refine ihiv _ (by omega) ?_
        have e_2 : fo (m_lightf wei sm) (iv + 1) 1000000 = if (wei iv) < (fo (m_lightf wei sm) iv 1000000) then (wei iv) else (fo (m_lightf wei sm) iv 1000000) := by simp [fo_s, m_lightf, c_15, b_21]
        exact ⟨by (try rw [e_2]); exact lv_sub hl [2, 3, 1, 0] rfl, trivial⟩
  · have hdone : True := trivial
    have e_3 : fo (m_lightf wei sm) 0 1000000 = 1000000 := rfl
    have e_4 : nI 0 = 0 := rfl
    exact ⟨by (try rw [e_3]); (try rw [e_4]); exact lv_sub hl [2, 3, 1, 0] rfl, trivial⟩
set_option maxHeartbeats 4000000 in
set_option maxRecDepth 100000 in
theorem c_weightToCome (l : Launch) (dC : Nat → ClassId) (dI : Nat → Nat → Nat) (ad : Nat → Nat) (ca : Nat → ClassId) (pk : Int32) (pp : Int32) (bw : Int32) (bs : Int64) (cn : Nat) (hc : cn ≤ 63) (due : Int64) (lon : Int64) (wei : Nat → Int32) (ser : Nat → Int64) (op : Int64) (us : Int64) : Met l y_S_weightToCome w_S_weightToCome ({ frames := 2, cells := 0, slots := 0, locals := 60 }) (kr_P [.ref (ad 1), .long op, .long us] (dC, dI) vC [(ad 1, eS ad pk pp bw bs), (ad 2, eT ad (nI cn) due lon), (ad 7, eI 81 (ca 7) wei), (ad 8, eL 32 (ca 8) ser)] [(ca 7, .int), (ca 8, .long)]) (vp_Si (fun r => r = (m_wtc cn wei ser op us).2)) 0 0 (fun _ => False) := by
  refine Met.ofW (cc := b_S_weightToCome) (maxL := 11) (ret := (some .int)) (by decide) rfl ?_
  intro p e s m args below meth c s₁ B hml hv
  obtain ⟨rfl, hP, hK⟩ := hv
  have hx := B.exec
  have hb := B.bytes
  have hr := B.returns
  have hts := atoms_spec (ws := w_S_weightToCome) B.pre
  have hlocks := B.notSynchronized
  have hown : s.vm.findClass R_S = some m.cls := findClass_of_methodNamed B.named
  have hl := lv_entry ([.ref (ad 1), .long op, .long us]) (n := 11) (Nat.le_of_ble_eq_true rfl)
  rw [lg_entry_eq]
  generalize (lg_sl ([.ref (ad 1), .long op, .long us]) ++ List.replicate (11 - (lg_sl ([.ref (ad 1), .long op, .long us])).length) Slot.unset).toArray = ls at hl ⊢
  have hl : lv_has ls 11 [(0, .ref (ad 1)), (1, .long op), (3, .long us)] := hl
  refine lv_lconst (v := 0) hx hb d_S_weightToCome_0 rfl ?_
  refine lv_lstore (lv' := [(5, .long 0), (0, .ref (ad 1)), (1, .long op), (3, .long us)]) hx hb d_S_weightToCome_1 hl (by decide) rfl (fun ls hl => ?_)
  refine lv_iconst (v := 0) hx hb d_S_weightToCome_3 (by decide) ?_
  refine lv_istore (lv' := [(7, .int 0), (5, .long 0), (0, .ref (ad 1)), (1, .long op), (3, .long us)]) hx hb d_S_weightToCome_4 hl (by decide) rfl (fun ls hl => ?_)
  refine lv_iconst (v := 0) hx hb d_S_weightToCome_6 (by decide) ?_
  refine lv_istore (lv' := [(8, .int 0), (7, .int 0), (5, .long 0), (0, .ref (ad 1)), (1, .long op), (3, .long us)]) hx hb d_S_weightToCome_7 hl (by decide) rfl (fun ls hl => ?_)
  refine k_loopR (fun iv ls => lv_has ls 11 [(0, .ref (ad 1)), (1, .long op), (3, .long us), (5, .long ((fo (m_wtcf cn wei ser op us) iv (0, 0)).1)), (7, .int ((fo (m_wtcf cn wei ser op us) iv (0, 0)).2)), (8, .int (nI iv))] ∧ True) 32 ?_ 0 _ (Nat.zero_le _) ?_
  · intro iv ls hiiv hI ihiv
    obtain ⟨hl, -⟩ := hI
    refine lv_iload hx hb d_S_weightToCome_9 (lv_at hl 5 rfl) ?_
    refine lv_bipush (v := 32) hx hb d_S_weightToCome_11 (by decide) ?_
    refine k_ge (a := iv) (b := 32) (tgt := 72) hx hb rfl rfl (by omega) (by omega) d_S_weightToCome_13 (by decide) (fun c_13 => ?_) (fun c_13 => ?_)
    · obtain rfl : 32 = iv := by omega
      refine lv_iload hx hb d_S_weightToCome_72 (lv_at hl 4 rfl) ?_
      exact W.iret (v := (fo (m_wtcf cn wei ser op us) 32 (0, 0)).2) hx hb hr (fun t ht hW => ⟨(fo (m_wtcf cn wei ser op us) 32 (0, 0)).2, rfl, rfl, ht⟩) (fun q h => by cases h) d_S_weightToCome_74
    · refine lv_aload_n hx hb d_S_weightToCome_16 rfl (lv_at hl 0 rfl) ?_
      refine va_get (D := (dC, dI)) (ci := 2) (v := .ref (ad 8)) (C := R_S) (T := F_S) (N := 8) hx hb hts (hin_of in_S) hown hK hP 0 rfl rfl 5 (by decide) (hw_of hts mw_147) (fun _ h9 => h9) rfl d_S_weightToCome_17 ?_
      refine lv_iload hx hb d_S_weightToCome_20 (lv_at hl 5 rfl) ?_
      refine k_lald (k := iv) hx hb hK hP 3 1 rfl rfl rfl (by omega) (by decide) d_S_weightToCome_22 ?_
      refine lv_lload_n hx hb d_S_weightToCome_23 rfl (lv_at hl 2 rfl) ?_
      refine lv_land hx hb d_S_weightToCome_24 ?_
      refine lv_lstore (lv' := [(9, .long ((ser iv) &&& us)), (0, .ref (ad 1)), (1, .long op), (3, .long us), (5, .long ((fo (m_wtcf cn wei ser op us) iv (0, 0)).1)), (7, .int ((fo (m_wtcf cn wei ser op us) iv (0, 0)).2)), (8, .int (nI iv))]) hx hb d_S_weightToCome_25 hl (by decide) rfl (fun ls hl => ?_)
      refine lv_lload_n hx hb d_S_weightToCome_27 rfl (lv_at hl 2 rfl) ?_
      refine lv_iload hx hb d_S_weightToCome_28 (lv_at hl 6 rfl) ?_
      refine k_bit (i := iv) (tgt := 66) hx hb rfl (by omega) d_S_weightToCome_30 d_S_weightToCome_31 d_S_weightToCome_32 d_S_weightToCome_33 d_S_weightToCome_34 d_S_weightToCome_35 (by decide) (fun b_30 => ?_) (fun b_30 => ?_)
      · refine lv_iinc (v := nI (iv + 1)) (lv' := [(8, .int (nI (iv + 1))), (9, .long ((ser iv) &&& us)), (0, .ref (ad 1)), (1, .long op), (3, .long us), (5, .long ((fo (m_wtcf cn wei ser op us) iv (0, 0)).1)), (7, .int ((fo (m_wtcf cn wei ser op us) iv (0, 0)).2))]) hx hb d_S_weightToCome_66 hl (k := 6) rfl (k_inc _) (by decide) rfl (fun ls hl => ?_)
        refine lv_goto (tgt := 9) hx hb d_S_weightToCome_69 (by decide) ?_
        refine ihiv _ (by omega) ?_
        have e_1 : (fo (m_wtcf cn wei ser op us) (iv + 1) (0, 0)).1 = (fo (m_wtcf cn wei ser op us) iv (0, 0)).1 := by simp [fo_s, m_wtcf, c_13, b_30]
        have e_2 : (fo (m_wtcf cn wei ser op us) (iv + 1) (0, 0)).2 = (fo (m_wtcf cn wei ser op us) iv (0, 0)).2 := by simp [fo_s, m_wtcf, c_13, b_30]
        exact ⟨by (try rw [e_1]); (try rw [e_2]); exact lv_sub hl [2, 3, 4, 5, 6, 0] rfl, trivial⟩
      · refine lv_lload hx hb d_S_weightToCome_38 (lv_at hl 0 rfl) ?_
        refine lv_lload hx hb d_S_weightToCome_40 (lv_at hl 4 rfl) ?_
        refine lv_land hx hb d_S_weightToCome_42 ?_
        refine lv_lconst (v := 0) hx hb d_S_weightToCome_43 rfl ?_
        refine k_lne (tgt := 66) hx hb d_S_weightToCome_44 d_S_weightToCome_45 (by decide) (fun c_44 => ?_) (fun c_44 => ?_)
        · refine lv_iinc (v := nI (iv + 1)) (lv' := [(8, .int (nI (iv + 1))), (9, .long ((ser iv) &&& us)), (0, .ref (ad 1)), (1, .long op), (3, .long us), (5, .long ((fo (m_wtcf cn wei ser op us) iv (0, 0)).1)), (7, .int ((fo (m_wtcf cn wei ser op us) iv (0, 0)).2))]) hx hb d_S_weightToCome_66 hl (k := 6) rfl (k_inc _) (by decide) rfl (fun ls hl => ?_)
          refine lv_goto (tgt := 9) hx hb d_S_weightToCome_69 (by decide) ?_
          refine ihiv _ (by omega) ?_
          have e_3 : (fo (m_wtcf cn wei ser op us) (iv + 1) (0, 0)).1 = (fo (m_wtcf cn wei ser op us) iv (0, 0)).1 := by simp [fo_s, m_wtcf, c_13, b_30, c_44]
          have e_4 : (fo (m_wtcf cn wei ser op us) (iv + 1) (0, 0)).2 = (fo (m_wtcf cn wei ser op us) iv (0, 0)).2 := by simp [fo_s, m_wtcf, c_13, b_30, c_44]
          exact ⟨by (try rw [e_3]); (try rw [e_4]); exact lv_sub hl [2, 3, 4, 5, 6, 0] rfl, trivial⟩
        · refine lv_lload hx hb d_S_weightToCome_48 (lv_at hl 4 rfl) ?_
          refine lv_lload hx hb d_S_weightToCome_50 (lv_at hl 0 rfl) ?_
          refine lv_lor hx hb d_S_weightToCome_52 ?_
          refine lv_lstore (lv' := [(5, .long (((fo (m_wtcf cn wei ser op us) iv (0, 0)).1) ||| ((ser iv) &&& us))), (9, .long ((ser iv) &&& us)), (0, .ref (ad 1)), (1, .long op), (3, .long us), (7, .int ((fo (m_wtcf cn wei ser op us) iv (0, 0)).2)), (8, .int (nI iv))]) hx hb d_S_weightToCome_53 hl (by decide) rfl (fun ls hl => ?_)
          refine lv_iload hx hb d_S_weightToCome_55 (lv_at hl 5 rfl) ?_
          refine lv_aload_n hx hb d_S_weightToCome_57 rfl (lv_at hl 2 rfl) ?_
          refine lv_lload hx hb d_S_weightToCome_58 (lv_at hl 1 rfl) ?_
          have hPc := hP.sub (ws' := [(ad 1, eS ad pk pp bw bs), (ad 2, eT ad (nI cn) due lon), (ad 7, eI 81 (ca 7) wei)]) [0, 1, 2] rfl
          have hKc := hK.sub (tys' := [(ca 7, .int)]) [0] rfl
          refine vp_callSi (W.runV (As := [.long ((ser iv) &&& us)]) (rest := [.int ((fo (m_wtcf cn wei ser op us) iv (0, 0)).2)]) ⟨hx, hb, hml, hown, hts⟩ (c_lightestOf l dC dI ad ca pk pp bw bs cn hc due lon wei ((ser iv) &&& us)) (cwV 1 hts (gd_V mw_285 mw_287 mw_16 mw_41 mw_288) rfl rfl rfl (by decide +kernel) ⟨Nat.le_of_ble_eq_true rfl, Nat.le_of_ble_eq_true rfl⟩) (kr_V (q0 := 0) (ci := 2) hKc hPc rfl rfl) rfl rfl hl.1 rfl (lv_room (Nat.le_of_ble_eq_true rfl)) d_S_weightToCome_60 ⟨Nat.zero_le _, Nat.zero_le _⟩) (fun r hq => ?_)
          subst hq
          refine lv_iadd hx hb d_S_weightToCome_63 ?_
          refine lv_istore (lv' := [(7, .int (((fo (m_wtcf cn wei ser op us) iv (0, 0)).2) + (m_light cn wei ((ser iv) &&& us)))), (5, .long (((fo (m_wtcf cn wei ser op us) iv (0, 0)).1) ||| ((ser iv) &&& us))), (9, .long ((ser iv) &&& us)), (0, .ref (ad 1)), (1, .long op), (3, .long us), (8, .int (nI iv))]) hx hb d_S_weightToCome_64 hl (by decide) rfl (fun ls hl => ?_)
          refine lv_iinc (v := nI (iv + 1)) (lv' := [(8, .int (nI (iv + 1))), (7, .int (((fo (m_wtcf cn wei ser op us) iv (0, 0)).2) + (m_light cn wei ((ser iv) &&& us)))), (5, .long (((fo (m_wtcf cn wei ser op us) iv (0, 0)).1) ||| ((ser iv) &&& us))), (9, .long ((ser iv) &&& us)), (0, .ref (ad 1)), (1, .long op), (3, .long us)]) hx hb d_S_weightToCome_66 hl (k := 6) rfl (k_inc _) (by decide) rfl (fun ls hl => ?_)
          refine lv_goto (tgt := 9) hx hb d_S_weightToCome_69 (by decide) ?_
          refine ihiv _ (by omega) ?_
          have e_5 : (fo (m_wtcf cn wei ser op us) (iv + 1) (0, 0)).1 = ((fo (m_wtcf cn wei ser op us) iv (0, 0)).1) ||| ((ser iv) &&& us) := by simp [fo_s, m_wtcf, c_13, b_30, c_44]
          have e_6 : (fo (m_wtcf cn wei ser op us) (iv + 1) (0, 0)).2 = ((fo (m_wtcf cn wei ser op us) iv (0, 0)).2) + (m_light cn wei ((ser iv) &&& us)) := by simp [fo_s, m_wtcf, c_13, b_30, c_44]
          exact ⟨by (try rw [e_5]); (try rw [e_6]); exact lv_sub hl [4, 5, 6, 2, 1, 0] rfl, trivial⟩
  · have hdone : True := trivial
    have e_7 : (fo (m_wtcf cn wei ser op us) 0 (0, 0)).1 = 0 := rfl
    have e_8 : (fo (m_wtcf cn wei ser op us) 0 (0, 0)).2 = 0 := rfl
    have e_9 : nI 0 = 0 := rfl
    exact ⟨by (try rw [e_7]); (try rw [e_8]); (try rw [e_9]); exact lv_sub hl [3, 4, 5, 2, 1, 0] rfl, trivial⟩
set_option maxHeartbeats 4000000 in
set_option maxRecDepth 100000 in
theorem c_fewestServers (l : Launch) (dC : Nat → ClassId) (dI : Nat → Nat → Nat) (ad : Nat → Nat) (ca : Nat → ClassId) (pk : Int32) (pp : Int32) (bw : Int32) (bs : Int64) (ser : Nat → Int64) (op : Int64) (us : Int64) : Met l y_S_fewestServers w_S_fewestServers ({ frames := 1, cells := 0, slots := 0, locals := 40 }) (kr_P [.ref (ad 1), .long op, .long us] (dC, dI) vC [(ad 1, eS ad pk pp bw bs), (ad 8, eL 32 (ca 8) ser)] [(ca 8, .long)]) (vp_Sl (fun r => r = m_few m_pop ser op us)) 0 0 (fun _ => False) := by
  refine Met.ofW (cc := b_S_fewestServers) (maxL := 10) (ret := (some .long)) (by decide) rfl ?_
  intro p e s m args below meth c s₁ B hml hv
  obtain ⟨rfl, hP, hK⟩ := hv
  have hx := B.exec
  have hb := B.bytes
  have hr := B.returns
  have hts := atoms_spec (ws := w_S_fewestServers) B.pre
  have hlocks := B.notSynchronized
  have hown : s.vm.findClass R_S = some m.cls := findClass_of_methodNamed B.named
  have hl := lv_entry ([.ref (ad 1), .long op, .long us]) (n := 10) (Nat.le_of_ble_eq_true rfl)
  rw [lg_entry_eq]
  generalize (lg_sl ([.ref (ad 1), .long op, .long us]) ++ List.replicate (10 - (lg_sl ([.ref (ad 1), .long op, .long us])).length) Slot.unset).toArray = ls at hl ⊢
  have hl : lv_has ls 10 [(0, .ref (ad 1)), (1, .long op), (3, .long us)] := hl
  refine lv_lload_n hx hb d_S_fewestServers_0 rfl (lv_at hl 2 rfl) ?_
  refine lv_lstore (lv' := [(5, .long us), (0, .ref (ad 1)), (1, .long op), (3, .long us)]) hx hb d_S_fewestServers_1 hl (by decide) rfl (fun ls hl => ?_)
  refine lv_iconst (v := 0) hx hb d_S_fewestServers_3 (by decide) ?_
  refine lv_istore (lv' := [(7, .int 0), (5, .long us), (0, .ref (ad 1)), (1, .long op), (3, .long us)]) hx hb d_S_fewestServers_4 hl (by decide) rfl (fun ls hl => ?_)
  refine k_loopR (fun iv ls => lv_has ls 10 [(0, .ref (ad 1)), (1, .long op), (3, .long us), (5, .long (fo (m_fewf m_pop ser op us) iv us)), (7, .int (nI iv))] ∧ True) 32 ?_ 0 _ (Nat.zero_le _) ?_
  · intro iv ls hiiv hI ihiv
    obtain ⟨hl, -⟩ := hI
    refine lv_iload hx hb d_S_fewestServers_6 (lv_at hl 4 rfl) ?_
    refine lv_bipush (v := 32) hx hb d_S_fewestServers_8 (by decide) ?_
    refine k_ge (a := iv) (b := 32) (tgt := 58) hx hb rfl rfl (by omega) (by omega) d_S_fewestServers_10 (by decide) (fun c_10 => ?_) (fun c_10 => ?_)
    · obtain rfl : 32 = iv := by omega
      refine lv_lload hx hb d_S_fewestServers_58 (lv_at hl 3 rfl) ?_
      exact W.lret (v := fo (m_fewf m_pop ser op us) 32 us) hx hb hr (fun t ht hW => ⟨fo (m_fewf m_pop ser op us) 32 us, rfl, rfl, ht⟩) (fun q h => by cases h) d_S_fewestServers_60
    · refine lv_aload_n hx hb d_S_fewestServers_13 rfl (lv_at hl 0 rfl) ?_
      refine va_get (D := (dC, dI)) (ci := 2) (v := .ref (ad 8)) (C := R_S) (T := F_S) (N := 8) hx hb hts (hin_of in_S) hown hK hP 0 rfl rfl 5 (by decide) (hw_of hts mw_147) (fun _ h9 => h9) rfl d_S_fewestServers_14 ?_
      refine lv_iload hx hb d_S_fewestServers_17 (lv_at hl 4 rfl) ?_
      refine k_lald (k := iv) hx hb hK hP 1 0 rfl rfl rfl (by omega) (by decide) d_S_fewestServers_19 ?_
      refine lv_lload_n hx hb d_S_fewestServers_20 rfl (lv_at hl 2 rfl) ?_
      refine lv_land hx hb d_S_fewestServers_21 ?_
      refine lv_lstore (lv' := [(8, .long ((ser iv) &&& us)), (0, .ref (ad 1)), (1, .long op), (3, .long us), (5, .long (fo (m_fewf m_pop ser op us) iv us)), (7, .int (nI iv))]) hx hb d_S_fewestServers_22 hl (by decide) rfl (fun ls hl => ?_)
      refine lv_lload_n hx hb d_S_fewestServers_24 rfl (lv_at hl 2 rfl) ?_
      refine lv_iload hx hb d_S_fewestServers_25 (lv_at hl 5 rfl) ?_
      refine k_bit (i := iv) (tgt := 52) hx hb rfl (by omega) d_S_fewestServers_27 d_S_fewestServers_28 d_S_fewestServers_29 d_S_fewestServers_30 d_S_fewestServers_31 d_S_fewestServers_32 (by decide) (fun b_27 => ?_) (fun b_27 => ?_)
      · refine lv_iinc (v := nI (iv + 1)) (lv' := [(7, .int (nI (iv + 1))), (8, .long ((ser iv) &&& us)), (0, .ref (ad 1)), (1, .long op), (3, .long us), (5, .long (fo (m_fewf m_pop ser op us) iv us))]) hx hb d_S_fewestServers_52 hl (k := 5) rfl (k_inc _) (by decide) rfl (fun ls hl => ?_)
        refine lv_goto (tgt := 6) hx hb d_S_fewestServers_55 (by decide) ?_
        refine ihiv _ (by omega) ?_
        have e_1 : fo (m_fewf m_pop ser op us) (iv + 1) us = fo (m_fewf m_pop ser op us) iv us := by simp [fo_s, m_fewf, c_10, b_27]
        exact ⟨by (try rw [e_1]); exact lv_sub hl [2, 3, 4, 5, 0] rfl, trivial⟩
      · refine lv_lload hx hb d_S_fewestServers_35 (lv_at hl 0 rfl) ?_
        have hPc := hP.sub (ws' := []) [] rfl
        have hKc := hK.sub (tys' := []) [] rfl
        refine vp_callSi (W.runS (As := [.long ((ser iv) &&& us)]) (rest := []) ⟨hx, hb, hml, hown, hts⟩ (c_bitCount l dC dI ad ca ((ser iv) &&& us)) (va_cwS 1 hts (gd_S mw_296 mw_297 mw_51 mw_298) rfl rfl rfl (by decide +kernel) ⟨Nat.le_of_ble_eq_true rfl, Nat.le_of_ble_eq_true rfl⟩) (kr_S hKc hPc) rfl rfl hl.1 rfl (lv_room (Nat.le_of_ble_eq_true rfl)) d_S_fewestServers_37 ⟨Nat.zero_le _, Nat.zero_le _⟩) (fun r hq => ?_)
        subst hq
        refine lv_lload hx hb d_S_fewestServers_40 (lv_at hl 4 rfl) ?_
        have hPc := hP.sub (ws' := []) [] rfl
        have hKc := hK.sub (tys' := []) [] rfl
        refine vp_callSi (W.runS (As := [.long (fo (m_fewf m_pop ser op us) iv us)]) (rest := [.int (m_pop ((ser iv) &&& us))]) ⟨hx, hb, hml, hown, hts⟩ (c_bitCount l dC dI ad ca (fo (m_fewf m_pop ser op us) iv us)) (va_cwS 1 hts (gd_S mw_296 mw_297 mw_51 mw_298) rfl rfl rfl (by decide +kernel) ⟨Nat.le_of_ble_eq_true rfl, Nat.le_of_ble_eq_true rfl⟩) (kr_S hKc hPc) rfl rfl hl.1 rfl (lv_room (Nat.le_of_ble_eq_true rfl)) d_S_fewestServers_42 ⟨Nat.zero_le _, Nat.zero_le _⟩) (fun r hq => ?_)
        subst hq
        refine lv_icmp_ge (tgt := 52) hx hb d_S_fewestServers_45 (by decide) (fun c_45 => ?_) (fun c_45 => ?_)
        · have d_45 := Int32.not_lt.mpr c_45
          refine lv_iinc (v := nI (iv + 1)) (lv' := [(7, .int (nI (iv + 1))), (8, .long ((ser iv) &&& us)), (0, .ref (ad 1)), (1, .long op), (3, .long us), (5, .long (fo (m_fewf m_pop ser op us) iv us))]) hx hb d_S_fewestServers_52 hl (k := 5) rfl (k_inc _) (by decide) rfl (fun ls hl => ?_)
          refine lv_goto (tgt := 6) hx hb d_S_fewestServers_55 (by decide) ?_
          refine ihiv _ (by omega) ?_
          have e_2 : fo (m_fewf m_pop ser op us) (iv + 1) us = fo (m_fewf m_pop ser op us) iv us := by simp [fo_s, m_fewf, c_10, b_27, c_45, d_45]
          exact ⟨by (try rw [e_2]); exact lv_sub hl [2, 3, 4, 5, 0] rfl, trivial⟩
        · have d_45 := Int32.not_le.mp c_45
          refine lv_lload hx hb d_S_fewestServers_48 (lv_at hl 0 rfl) ?_
          refine lv_lstore (lv' := [(5, .long ((ser iv) &&& us)), (8, .long ((ser iv) &&& us)), (0, .ref (ad 1)), (1, .long op), (3, .long us), (7, .int (nI iv))]) hx hb d_S_fewestServers_50 hl (by decide) rfl (fun ls hl => ?_)
          refine lv_iinc (v := nI (iv + 1)) (lv' := [(7, .int (nI (iv + 1))), (5, .long ((ser iv) &&& us)), (8, .long ((ser iv) &&& us)), (0, .ref (ad 1)), (1, .long op), (3, .long us)]) hx hb d_S_fewestServers_52 hl (k := 5) rfl (k_inc _) (by decide) rfl (fun ls hl => ?_)
          refine lv_goto (tgt := 6) hx hb d_S_fewestServers_55 (by decide) ?_
          refine ihiv _ (by omega) ?_
          have e_3 : fo (m_fewf m_pop ser op us) (iv + 1) us = (ser iv) &&& us := by simp [fo_s, m_fewf, c_10, b_27, c_45, d_45]
          exact ⟨by (try rw [e_3]); exact lv_sub hl [3, 4, 5, 1, 0] rfl, trivial⟩
  · have hdone : True := trivial
    have e_4 : fo (m_fewf m_pop ser op us) 0 us = us := rfl
    have e_5 : nI 0 = 0 := rfl
    exact ⟨by (try rw [e_4]); (try rw [e_5]); exact lv_sub hl [2, 3, 4, 1, 0] rfl, trivial⟩
end
section
set_option maxHeartbeats 4000000 in
set_option maxRecDepth 100000 in
theorem c_keepIfBetter (l : Launch) (dC : Nat → ClassId) (dI : Nat → Nat → Nat) (ad : Nat → Nat) (ca : Nat → ClassId) (pk : Int32) (pp : Int32) (bw : Int32) (bs : Int64) (wt : Int32) (sm : Int64) (sz : Nat) : Met l y_S_keepIfBetter w_S_keepIfBetter ({ frames := 1, cells := 0, slots := 0, locals := 27 }) (kw_P [.ref (ad 1), .int wt, .long sm] sz (dC, dI) vC [(ad 1, eS ad pk pp bw bs)] []) (kw_Qv (dC, dI) vC [] (va_A [(ad 1, eS ad pk pp bw bs)] sz) [(ad 1, eS ad pk pp ((m_keep wt sm (bw, bs)).1) ((m_keep wt sm (bw, bs)).2))]) 0 0 (va_A [(ad 1, eS ad pk pp bw bs)] sz) := by
  refine Met.ofW (cc := b_S_keepIfBetter) (maxL := 4) (ret := none) (by decide) rfl ?_
  intro p e s m args below meth c s₁ B hml hv
  obtain ⟨rfl, hsz, hP, hK, hD0⟩ := hv
  have hx := B.exec
  have hb := B.bytes
  have hr := B.returns
  have hts := atoms_spec (ws := w_S_keepIfBetter) B.pre
  have hlocks := B.notSynchronized
  have hown : s.vm.findClass R_S = some m.cls := findClass_of_methodNamed B.named
  subst hsz
  have hD := hD0.self (sz := s.heap.size)
  generalize hAe : va_A [(ad 1, eS ad pk pp bw bs)] s.heap.size = A at hD ⊢
  have hA : ∀ q : Nat, s.heap.size ≤ q → A q := fun q h => by rw [← hAe]; exact Or.inr h
  have hS : va_S A s.heap s.heap [] := va_S.rf
  have hP : va_P (dC, dI) vC [(ad 1, eS ad pk pp bw bs)] s.heap := hP
  have hl := lv_entry ([.ref (ad 1), .int wt, .long sm]) (n := 4) (Nat.le_of_ble_eq_true rfl)
  rw [lg_entry_eq]
  generalize (lg_sl ([.ref (ad 1), .int wt, .long sm]) ++ List.replicate (4 - (lg_sl ([.ref (ad 1), .int wt, .long sm])).length) Slot.unset).toArray = ls at hl ⊢
  have hl : lv_has ls 4 [(0, .ref (ad 1)), (1, .int wt), (2, .long sm)] := hl
  refine lv_aload_n hx hb d_S_keepIfBetter_0 rfl (lv_at hl 0 rfl) ?_
  refine lv_iload_n hx hb d_S_keepIfBetter_1 rfl (lv_at hl 1 rfl) ?_
  refine lv_lload_n hx hb d_S_keepIfBetter_2 rfl (lv_at hl 2 rfl) ?_
  have hPc := hP.sub (ws' := [(ad 1, eS ad pk pp bw bs)]) [0] rfl
  have hKc := hK.sub (tys' := []) [] rfl
  refine vp_callSi (W.runV (As := [.int wt, .long sm]) (rest := []) ⟨hx, hb, hml, hown, hts⟩ (c_isBetter l dC dI ad ca pk pp bw bs wt sm) (cwV 2 hts (gd_V mw_268 mw_270 mw_12 mw_41 mw_271) rfl rfl rfl (by decide +kernel) ⟨Nat.le_of_ble_eq_true rfl, Nat.le_of_ble_eq_true rfl⟩) (kr_V (q0 := 0) (ci := 2) hKc hPc rfl rfl) rfl rfl hl.1 rfl (lv_room (Nat.le_of_ble_eq_true rfl)) d_S_keepIfBetter_3 ⟨Nat.zero_le _, Nat.zero_le _⟩) (fun r hq => ?_)
  subst hq
  refine k_beq (b := (m_bet wt sm bw bs)) (tgt := 19) hx hb d_S_keepIfBetter_6 (by decide) (fun c_6 => ?_) (fun c_6 => ?_)
  · have e_1 : (m_keep wt sm (bw, bs)).1 = bw := by simp [m_keep, c_6]
    have e_2 : (m_keep wt sm (bw, bs)).2 = bs := by simp [m_keep, c_6]
    exact W.vret hx hb hr (fun t ht hW => by (try rw [e_1]); (try rw [e_2]); exact kw_endv hP hD hK hS [0] rfl (by decide) rfl ht hW.alike) hS.2.2 d_S_keepIfBetter_19
  · refine lv_aload_n hx hb d_S_keepIfBetter_9 rfl (lv_at hl 0 rfl) ?_
    refine lv_iload_n hx hb d_S_keepIfBetter_10 rfl (lv_at hl 1 rfl) ?_
    refine va_put (D := (dC, dI)) (ci := 2) (v := .int wt) (ty := .int) (C := R_S) (T := F_S) (N := 8) hx hb hts (hin_of in_S) ft_S tk_S nm_S hown hK hP hD hS 0 rfl rfl 6 (by decide) (hw_of hts mw_148) (fun _ h9 => h9) rfl (by decide +kernel) rfl rfl (Nat.le_of_ble_eq_true rfl) d_S_keepIfBetter_11 (fun H locs hP hD hS => ?_)
    have hP : va_P (dC, dI) vC [(ad 1, eS ad pk pp wt bs)] H := hP
    have hD : va_D A [(ad 1, eS ad pk pp wt bs)] := hD
    refine lv_aload_n hx hb d_S_keepIfBetter_14 rfl (lv_at hl 0 rfl) ?_
    refine lv_lload_n hx hb d_S_keepIfBetter_15 rfl (lv_at hl 2 rfl) ?_
    refine va_put (D := (dC, dI)) (ci := 2) (v := .long sm) (ty := .long) (C := R_S) (T := F_S) (N := 8) hx hb hts (hin_of in_S) ft_S tk_S nm_S hown hK hP hD hS 0 rfl rfl 7 (by decide) (hw_of hts mw_149) (fun _ h9 => h9) rfl (by decide +kernel) rfl rfl (Nat.le_of_ble_eq_true rfl) d_S_keepIfBetter_16 (fun H locs hP hD hS => ?_)
    have hP : va_P (dC, dI) vC [(ad 1, eS ad pk pp wt sm)] H := hP
    have hD : va_D A [(ad 1, eS ad pk pp wt sm)] := hD
    have e_3 : (m_keep wt sm (bw, bs)).1 = wt := by simp [m_keep, c_6]
    have e_4 : (m_keep wt sm (bw, bs)).2 = sm := by simp [m_keep, c_6]
    exact W.vret hx hb hr (fun t ht hW => by (try rw [e_3]); (try rw [e_4]); exact kw_endv hP hD hK hS [0] rfl (by decide) rfl ht hW.alike) hS.2.2 d_S_keepIfBetter_19
set_option maxHeartbeats 4000000 in
set_option maxRecDepth 100000 in
theorem c_listBest (l : Launch) (dC : Nat → ClassId) (dI : Nat → Nat → Nat) (ad : Nat → Nat) (ca : Nat → ClassId) (pk : Int32) (pp : Int32) (bw : Int32) (bs : Int64) (cn : Nat) (hc : cn ≤ 63) (due : Int64) (lon : Int64) (pic : Nat → Int32) (siz : Nat → Int32) (sz : Nat) : Met l y_S_listBest w_S_listBest ({ frames := 0, cells := 0, slots := 0, locals := 0 }) (kw_P [.ref (ad 1)] sz (dC, dI) vC [(ad 1, eS ad pk pp bw bs), (ad 2, eT ad (nI cn) due lon), (ad 6, eI 81 (ca 6) pic), (ad 11, eI 81 (ca 11) siz)] [(ca 6, .int), (ca 11, .int)]) (kw_Qv (dC, dI) vC [(ca 6, .int), (ca 11, .int)] (va_A [(ad 1, eS ad pk pp bw bs), (ad 2, eT ad (nI cn) due lon), (ad 6, eI 81 (ca 6) pic), (ad 11, eI 81 (ca 11) siz)] sz) [(ad 1, eS ad (nI ((fo (mc_lbf bs siz) cn (pic, 0, 0)).2.1)) ((fo (mc_lbf bs siz) cn (pic, 0, 0)).2.2) bw bs), (ad 2, eT ad (nI cn) due lon), (ad 6, eI 81 (ca 6) ((fo (mc_lbf bs siz) cn (pic, 0, 0)).1)), (ad 11, eI 81 (ca 11) siz)]) 0 0 (va_A [(ad 1, eS ad pk pp bw bs), (ad 2, eT ad (nI cn) due lon), (ad 6, eI 81 (ca 6) pic), (ad 11, eI 81 (ca 11) siz)] sz) := by
  refine Met.ofW (cc := b_S_listBest) (maxL := 2) (ret := none) (by decide) rfl ?_
  intro p e s m args below meth c s₁ B hml hv
  obtain ⟨rfl, hsz, hP, hK, hD0⟩ := hv
  have hx := B.exec
  have hb := B.bytes
  have hr := B.returns
  have hts := atoms_spec (ws := w_S_listBest) B.pre
  have hlocks := B.notSynchronized
  have hown : s.vm.findClass R_S = some m.cls := findClass_of_methodNamed B.named
  subst hsz
  have hD := hD0.self (sz := s.heap.size)
  generalize hAe : va_A [(ad 1, eS ad pk pp bw bs), (ad 2, eT ad (nI cn) due lon), (ad 6, eI 81 (ca 6) pic), (ad 11, eI 81 (ca 11) siz)] s.heap.size = A at hD ⊢
  have hA : ∀ q : Nat, s.heap.size ≤ q → A q := fun q h => by rw [← hAe]; exact Or.inr h
  have hS : va_S A s.heap s.heap [] := va_S.rf
  have hP : va_P (dC, dI) vC [(ad 1, eS ad pk pp bw bs), (ad 2, eT ad (nI cn) due lon), (ad 6, eI 81 (ca 6) pic), (ad 11, eI 81 (ca 11) siz)] s.heap := hP
  have hl := lv_entry ([.ref (ad 1)]) (n := 2) (Nat.le_of_ble_eq_true rfl)
  rw [lg_entry_eq]
  generalize (lg_sl ([.ref (ad 1)]) ++ List.replicate (2 - (lg_sl ([.ref (ad 1)])).length) Slot.unset).toArray = ls at hl ⊢
  have hl : lv_has ls 2 [(0, .ref (ad 1))] := hl
  refine lv_aload_n hx hb d_S_listBest_0 rfl (lv_at hl 0 rfl) ?_
  refine lv_iconst (v := 0) hx hb d_S_listBest_1 (by decide) ?_
  refine va_put (D := (dC, dI)) (ci := 2) (v := .int 0) (ty := .int) (C := R_S) (T := F_S) (N := 8) hx hb hts (hin_of in_S) ft_S tk_S nm_S hown hK hP hD hS 0 rfl rfl 1 (by decide) (hw_of hts mw_140) (fun _ h9 => h9) rfl (by decide +kernel) rfl rfl (Nat.le_of_ble_eq_true rfl) d_S_listBest_2 (fun H locs hP hD hS => ?_)
  have hP : va_P (dC, dI) vC [(ad 1, eS ad 0 pp bw bs), (ad 2, eT ad (nI cn) due lon), (ad 6, eI 81 (ca 6) pic), (ad 11, eI 81 (ca 11) siz)] H := hP
  have hD : va_D A [(ad 1, eS ad 0 pp bw bs), (ad 2, eT ad (nI cn) due lon), (ad 6, eI 81 (ca 6) pic), (ad 11, eI 81 (ca 11) siz)] := hD
  refine lv_aload_n hx hb d_S_listBest_5 rfl (lv_at hl 0 rfl) ?_
  refine lv_iconst (v := 0) hx hb d_S_listBest_6 (by decide) ?_
  refine va_put (D := (dC, dI)) (ci := 2) (v := .int 0) (ty := .int) (C := R_S) (T := F_S) (N := 8) hx hb hts (hin_of in_S) ft_S tk_S nm_S hown hK hP hD hS 0 rfl rfl 2 (by decide) (hw_of hts mw_142) (fun _ h9 => h9) rfl (by decide +kernel) rfl rfl (Nat.le_of_ble_eq_true rfl) d_S_listBest_7 (fun H locs hP hD hS => ?_)
  have hP : va_P (dC, dI) vC [(ad 1, eS ad 0 0 bw bs), (ad 2, eT ad (nI cn) due lon), (ad 6, eI 81 (ca 6) pic), (ad 11, eI 81 (ca 11) siz)] H := hP
  have hD : va_D A [(ad 1, eS ad 0 0 bw bs), (ad 2, eT ad (nI cn) due lon), (ad 6, eI 81 (ca 6) pic), (ad 11, eI 81 (ca 11) siz)] := hD
  refine lv_iconst (v := 0) hx hb d_S_listBest_10 (by decide) ?_
  refine lv_istore_n (lv' := [(1, .int 0), (0, .ref (ad 1))]) hx hb d_S_listBest_11 rfl hl (by decide) rfl (fun ls hl => ?_)
  refine k_loopH (fun iv H locs ls => lv_has ls 2 [(0, .ref (ad 1)), (1, .int (nI iv))] ∧ va_P (dC, dI) vC [(ad 1, eS ad (nI ((fo (mc_lbf bs siz) iv (pic, 0, 0)).2.1)) ((fo (mc_lbf bs siz) iv (pic, 0, 0)).2.2) bw bs), (ad 2, eT ad (nI cn) due lon), (ad 6, eI 81 (ca 6) ((fo (mc_lbf bs siz) iv (pic, 0, 0)).1)), (ad 11, eI 81 (ca 11) siz)] H ∧ va_D A [(ad 1, eS ad (nI ((fo (mc_lbf bs siz) iv (pic, 0, 0)).2.1)) ((fo (mc_lbf bs siz) iv (pic, 0, 0)).2.2) bw bs), (ad 2, eT ad (nI cn) due lon), (ad 6, eI 81 (ca 6) ((fo (mc_lbf bs siz) iv (pic, 0, 0)).1)), (ad 11, eI 81 (ca 11) siz)] ∧ va_S A s.heap H locs ∧ (fo (mc_lbf bs siz) iv (pic, 0, 0)).2.1 ≤ iv) cn ?_ 0 _ _ _ (Nat.zero_le _) ?_
  · intro iv H locs ls hiiv hI ihiv
    obtain ⟨hl, hP, hD, hS, hle⟩ := hI
    refine lv_iload_n hx hb d_S_listBest_12 rfl (lv_at hl 1 rfl) ?_
    refine lv_aload_n hx hb d_S_listBest_13 rfl (lv_at hl 0 rfl) ?_
    refine va_get (D := (dC, dI)) (ci := 2) (v := .ref (ad 2)) (C := R_S) (T := F_S) (N := 8) hx hb hts (hin_of in_S) hown hK hP 0 rfl rfl 3 (by decide) (hw_of hts mw_144) (fun _ h9 => h9) rfl d_S_listBest_14 ?_
    refine va_get (D := (dC, dI)) (ci := 0) (v := .int (nI cn)) (C := R_T) (T := F_T) (N := 10) hx hb hts (hin_of in_T) hown hK hP 1 rfl rfl 5 (by decide) (hw_of hts mw_109) (fun _ h9 => h9) rfl d_S_listBest_17 ?_
    refine k_ge (a := iv) (b := cn) (tgt := 80) hx hb rfl rfl (by omega) (by omega) d_S_listBest_20 (by decide) (fun c_20 => ?_) (fun c_20 => ?_)
    · obtain rfl : cn = iv := by omega
      exact W.vret hx hb hr (fun t ht hW => by exact kw_endv hP hD hK hS [0, 1, 2, 3] rfl (by decide) rfl ht hW.alike) hS.2.2 d_S_listBest_80
    · refine lv_aload_n hx hb d_S_listBest_23 rfl (lv_at hl 0 rfl) ?_
      refine va_get (D := (dC, dI)) (ci := 2) (v := .long bs) (C := R_S) (T := F_S) (N := 8) hx hb hts (hin_of in_S) hown hK hP 0 rfl rfl 7 (by decide) (hw_of hts mw_149) (fun _ h9 => h9) rfl d_S_listBest_24 ?_
      refine lv_iload_n hx hb d_S_listBest_27 rfl (lv_at hl 1 rfl) ?_
      refine k_bit (i := iv) (tgt := 74) hx hb rfl (by omega) d_S_listBest_28 d_S_listBest_29 d_S_listBest_30 d_S_listBest_31 d_S_listBest_32 d_S_listBest_33 (by decide) (fun b_28 => ?_) (fun b_28 => ?_)
      · refine lv_iinc (v := nI (iv + 1)) (lv' := [(1, .int (nI (iv + 1))), (0, .ref (ad 1))]) hx hb d_S_listBest_74 hl (k := 1) rfl (k_inc _) (by decide) rfl (fun ls hl => ?_)
        refine lv_goto (tgt := 12) hx hb d_S_listBest_77 (by decide) ?_
        refine ihiv _ _ _ (by omega) ?_
        have e_1 : nI ((fo (mc_lbf bs siz) (iv + 1) (pic, 0, 0)).2.1) = nI ((fo (mc_lbf bs siz) iv (pic, 0, 0)).2.1) := by simp [fo_s, mc_lbf, c_20, b_28]
        have e_2 : (fo (mc_lbf bs siz) (iv + 1) (pic, 0, 0)).2.2 = (fo (mc_lbf bs siz) iv (pic, 0, 0)).2.2 := by simp [fo_s, mc_lbf, c_20, b_28]
        have e_3 : (fo (mc_lbf bs siz) (iv + 1) (pic, 0, 0)).1 = (fo (mc_lbf bs siz) iv (pic, 0, 0)).1 := by simp [fo_s, mc_lbf, c_20, b_28]
        exact ⟨by (try rw [e_1]); (try rw [e_2]); (try rw [e_3]); exact lv_sub hl [1, 0] rfl, by (try rw [e_1]); (try rw [e_2]); (try rw [e_3]); exact hP, by (try rw [e_1]); (try rw [e_2]); (try rw [e_3]); exact hD, hS, (by simp [fo_s, mc_lbf, c_20, b_28]; omega)⟩
      · refine lv_aload_n hx hb d_S_listBest_36 rfl (lv_at hl 0 rfl) ?_
        refine va_get (D := (dC, dI)) (ci := 2) (v := .ref (ad 6)) (C := R_S) (T := F_S) (N := 8) hx hb hts (hin_of in_S) hown hK hP 0 rfl rfl 0 (by decide) (hw_of hts mw_138) (fun _ h9 => h9) rfl d_S_listBest_37 ?_
        refine lv_aload_n hx hb d_S_listBest_40 rfl (lv_at hl 0 rfl) ?_
        refine va_get (D := (dC, dI)) (ci := 2) (v := .int (nI ((fo (mc_lbf bs siz) iv (pic, 0, 0)).2.1))) (C := R_S) (T := F_S) (N := 8) hx hb hts (hin_of in_S) hown hK hP 0 rfl rfl 1 (by decide) (hw_of hts mw_140) (fun _ h9 => h9) rfl d_S_listBest_41 ?_
        refine lv_iload_n hx hb d_S_listBest_44 rfl (lv_at hl 1 rfl) ?_
        refine k_iast (k := (fo (mc_lbf bs siz) iv (pic, 0, 0)).2.1) hx hb hK hP hD hS 2 0 rfl rfl rfl (by omega) (by decide) d_S_listBest_45 (fun H locs hP hD hS => ?_)
        have hP : va_P (dC, dI) vC [(ad 1, eS ad (nI ((fo (mc_lbf bs siz) iv (pic, 0, 0)).2.1)) ((fo (mc_lbf bs siz) iv (pic, 0, 0)).2.2) bw bs), (ad 2, eT ad (nI cn) due lon), (ad 6, eI 81 (ca 6) (upd ((fo (mc_lbf bs siz) iv (pic, 0, 0)).1) ((fo (mc_lbf bs siz) iv (pic, 0, 0)).2.1) (nI iv))), (ad 11, eI 81 (ca 11) siz)] H := hP
        have hD : va_D A [(ad 1, eS ad (nI ((fo (mc_lbf bs siz) iv (pic, 0, 0)).2.1)) ((fo (mc_lbf bs siz) iv (pic, 0, 0)).2.2) bw bs), (ad 2, eT ad (nI cn) due lon), (ad 6, eI 81 (ca 6) (upd ((fo (mc_lbf bs siz) iv (pic, 0, 0)).1) ((fo (mc_lbf bs siz) iv (pic, 0, 0)).2.1) (nI iv))), (ad 11, eI 81 (ca 11) siz)] := hD
        refine lv_aload_n hx hb d_S_listBest_46 rfl (lv_at hl 0 rfl) ?_
        refine lv_dup hx hb d_S_listBest_47 rfl ?_
        refine va_get (D := (dC, dI)) (ci := 2) (v := .int (nI ((fo (mc_lbf bs siz) iv (pic, 0, 0)).2.1))) (C := R_S) (T := F_S) (N := 8) hx hb hts (hin_of in_S) hown hK hP 0 rfl rfl 1 (by decide) (hw_of hts mw_140) (fun _ h9 => h9) rfl d_S_listBest_48 ?_
        refine lv_iconst (v := 1) hx hb d_S_listBest_51 (by decide) ?_
        refine k_iadd (a := (fo (mc_lbf bs siz) iv (pic, 0, 0)).2.1) (b := 1) hx hb rfl rfl d_S_listBest_52 ?_
        refine va_put (D := (dC, dI)) (ci := 2) (v := .int (nI (((fo (mc_lbf bs siz) iv (pic, 0, 0)).2.1) + 1))) (ty := .int) (C := R_S) (T := F_S) (N := 8) hx hb hts (hin_of in_S) ft_S tk_S nm_S hown hK hP hD hS 0 rfl rfl 1 (by decide) (hw_of hts mw_140) (fun _ h9 => h9) rfl (by decide +kernel) rfl rfl (Nat.le_of_ble_eq_true rfl) d_S_listBest_53 (fun H locs hP hD hS => ?_)
        have hP : va_P (dC, dI) vC [(ad 1, eS ad (nI (((fo (mc_lbf bs siz) iv (pic, 0, 0)).2.1) + 1)) ((fo (mc_lbf bs siz) iv (pic, 0, 0)).2.2) bw bs), (ad 2, eT ad (nI cn) due lon), (ad 6, eI 81 (ca 6) (upd ((fo (mc_lbf bs siz) iv (pic, 0, 0)).1) ((fo (mc_lbf bs siz) iv (pic, 0, 0)).2.1) (nI iv))), (ad 11, eI 81 (ca 11) siz)] H := hP
        have hD : va_D A [(ad 1, eS ad (nI (((fo (mc_lbf bs siz) iv (pic, 0, 0)).2.1) + 1)) ((fo (mc_lbf bs siz) iv (pic, 0, 0)).2.2) bw bs), (ad 2, eT ad (nI cn) due lon), (ad 6, eI 81 (ca 6) (upd ((fo (mc_lbf bs siz) iv (pic, 0, 0)).1) ((fo (mc_lbf bs siz) iv (pic, 0, 0)).2.1) (nI iv))), (ad 11, eI 81 (ca 11) siz)] := hD
        refine lv_aload_n hx hb d_S_listBest_56 rfl (lv_at hl 0 rfl) ?_
        refine lv_dup hx hb d_S_listBest_57 rfl ?_
        refine va_get (D := (dC, dI)) (ci := 2) (v := .int ((fo (mc_lbf bs siz) iv (pic, 0, 0)).2.2)) (C := R_S) (T := F_S) (N := 8) hx hb hts (hin_of in_S) hown hK hP 0 rfl rfl 2 (by decide) (hw_of hts mw_142) (fun _ h9 => h9) rfl d_S_listBest_58 ?_
        refine lv_aload_n hx hb d_S_listBest_61 rfl (lv_at hl 0 rfl) ?_
        refine va_get (D := (dC, dI)) (ci := 2) (v := .ref (ad 2)) (C := R_S) (T := F_S) (N := 8) hx hb hts (hin_of in_S) hown hK hP 0 rfl rfl 3 (by decide) (hw_of hts mw_144) (fun _ h9 => h9) rfl d_S_listBest_62 ?_
        refine va_get (D := (dC, dI)) (ci := 0) (v := .ref (ad 11)) (C := R_T) (T := F_T) (N := 10) hx hb hts (hin_of in_T) hown hK hP 1 rfl rfl 2 (by decide) (hw_of hts mw_102) (fun _ h9 => h9) rfl d_S_listBest_65 ?_
        refine lv_iload_n hx hb d_S_listBest_68 rfl (lv_at hl 1 rfl) ?_
        refine k_iald (k := iv) hx hb hK hP 3 1 rfl rfl rfl (by omega) (by decide) d_S_listBest_69 ?_
        refine lv_iadd hx hb d_S_listBest_70 ?_
        refine va_put (D := (dC, dI)) (ci := 2) (v := .int (((fo (mc_lbf bs siz) iv (pic, 0, 0)).2.2) + (siz iv))) (ty := .int) (C := R_S) (T := F_S) (N := 8) hx hb hts (hin_of in_S) ft_S tk_S nm_S hown hK hP hD hS 0 rfl rfl 2 (by decide) (hw_of hts mw_142) (fun _ h9 => h9) rfl (by decide +kernel) rfl rfl (Nat.le_of_ble_eq_true rfl) d_S_listBest_71 (fun H locs hP hD hS => ?_)
        have hP : va_P (dC, dI) vC [(ad 1, eS ad (nI (((fo (mc_lbf bs siz) iv (pic, 0, 0)).2.1) + 1)) (((fo (mc_lbf bs siz) iv (pic, 0, 0)).2.2) + (siz iv)) bw bs), (ad 2, eT ad (nI cn) due lon), (ad 6, eI 81 (ca 6) (upd ((fo (mc_lbf bs siz) iv (pic, 0, 0)).1) ((fo (mc_lbf bs siz) iv (pic, 0, 0)).2.1) (nI iv))), (ad 11, eI 81 (ca 11) siz)] H := hP
        have hD : va_D A [(ad 1, eS ad (nI (((fo (mc_lbf bs siz) iv (pic, 0, 0)).2.1) + 1)) (((fo (mc_lbf bs siz) iv (pic, 0, 0)).2.2) + (siz iv)) bw bs), (ad 2, eT ad (nI cn) due lon), (ad 6, eI 81 (ca 6) (upd ((fo (mc_lbf bs siz) iv (pic, 0, 0)).1) ((fo (mc_lbf bs siz) iv (pic, 0, 0)).2.1) (nI iv))), (ad 11, eI 81 (ca 11) siz)] := hD
        refine lv_iinc (v := nI (iv + 1)) (lv' := [(1, .int (nI (iv + 1))), (0, .ref (ad 1))]) hx hb d_S_listBest_74 hl (k := 1) rfl (k_inc _) (by decide) rfl (fun ls hl => ?_)
        refine lv_goto (tgt := 12) hx hb d_S_listBest_77 (by decide) ?_
        refine ihiv _ _ _ (by omega) ?_
        have e_4 : nI ((fo (mc_lbf bs siz) (iv + 1) (pic, 0, 0)).2.1) = nI (((fo (mc_lbf bs siz) iv (pic, 0, 0)).2.1) + 1) := by simp [fo_s, mc_lbf, c_20, b_28]
        have e_5 : (fo (mc_lbf bs siz) (iv + 1) (pic, 0, 0)).2.2 = ((fo (mc_lbf bs siz) iv (pic, 0, 0)).2.2) + (siz iv) := by simp [fo_s, mc_lbf, c_20, b_28]
        have e_6 : (fo (mc_lbf bs siz) (iv + 1) (pic, 0, 0)).1 = upd ((fo (mc_lbf bs siz) iv (pic, 0, 0)).1) ((fo (mc_lbf bs siz) iv (pic, 0, 0)).2.1) (nI iv) := by simp [fo_s, mc_lbf, c_20, b_28]
        exact ⟨by (try rw [e_4]); (try rw [e_5]); (try rw [e_6]); exact lv_sub hl [1, 0] rfl, by (try rw [e_4]); (try rw [e_5]); (try rw [e_6]); exact hP, by (try rw [e_4]); (try rw [e_5]); (try rw [e_6]); exact hD, hS, (by simp [fo_s, mc_lbf, c_20, b_28]; omega)⟩
  · have hdone : True := trivial
    have e_7 : nI 0 = 0 := rfl
    have e_8 : nI ((fo (mc_lbf bs siz) 0 (pic, 0, 0)).2.1) = 0 := rfl
    have e_9 : (fo (mc_lbf bs siz) 0 (pic, 0, 0)).2.2 = 0 := rfl
    have e_10 : (fo (mc_lbf bs siz) 0 (pic, 0, 0)).1 = pic := rfl
    exact ⟨by (try rw [e_7]); (try rw [e_8]); (try rw [e_9]); (try rw [e_10]); exact lv_sub hl [1, 0] rfl, by (try rw [e_7]); (try rw [e_8]); (try rw [e_9]); (try rw [e_10]); exact hP, by (try rw [e_7]); (try rw [e_8]); (try rw [e_9]); (try rw [e_10]); exact hD, hS, Nat.le_refl 0⟩
set_option maxHeartbeats 4000000 in
set_option maxRecDepth 100000 in
theorem c_makesOne (l : Launch) (dC : Nat → ClassId) (dI : Nat → Nat → Nat) (ad : Nat → Nat) (ca : Nat → ClassId) (pn : Nat) (hpn : pn ≤ 81) (pp : Int32) (bw : Int32) (bs : Int64) (cn : Int32) (due : Int64) (lon : Int64) (pic : Nat → Int32) (out : Nat → Int32) (inp : Nat → Int32) (pkn : Nat → Nat) (hpk : ∀ k, k < pn → pic k = nI (pkn k) ∧ pkn k < 81) (oo : Int32) (xx : Int32) : Met l y_S_makesOne w_S_makesOne ({ frames := 0, cells := 0, slots := 0, locals := 0 }) (kr_P [.ref (ad 1), .int oo, .int xx] (dC, dI) vC [(ad 1, eS ad (nI pn) pp bw bs), (ad 2, eT ad cn due lon), (ad 6, eI 81 (ca 6) pic), (ad 10, eI 81 (ca 10) out), (ad 12, eI 81 (ca 12) inp)] [(ca 6, .int), (ca 10, .int), (ca 12, .int)]) (vp_Si (fun r => r = if (exn pn (mc_oneP out inp pkn oo xx)) = true then 1 else 0)) 0 0 (fun _ => False) := by
  refine Met.ofW (cc := b_S_makesOne) (maxL := 5) (ret := (some .boolean)) (by decide) rfl ?_
  intro p e s m args below meth c s₁ B hml hv
  obtain ⟨rfl, hP, hK⟩ := hv
  have hx := B.exec
  have hb := B.bytes
  have hr := B.returns
  have hts := atoms_spec (ws := w_S_makesOne) B.pre
  have hlocks := B.notSynchronized
  have hown : s.vm.findClass R_S = some m.cls := findClass_of_methodNamed B.named
  have hl := lv_entry ([.ref (ad 1), .int oo, .int xx]) (n := 5) (Nat.le_of_ble_eq_true rfl)
  rw [lg_entry_eq]
  generalize (lg_sl ([.ref (ad 1), .int oo, .int xx]) ++ List.replicate (5 - (lg_sl ([.ref (ad 1), .int oo, .int xx])).length) Slot.unset).toArray = ls at hl ⊢
  have hl : lv_has ls 5 [(0, .ref (ad 1)), (1, .int oo), (2, .int xx)] := hl
  refine lv_iconst (v := 0) hx hb d_S_makesOne_0 (by decide) ?_
  refine lv_istore_n (lv' := [(3, .int 0), (0, .ref (ad 1)), (1, .int oo), (2, .int xx)]) hx hb d_S_makesOne_1 rfl hl (by decide) rfl (fun ls hl => ?_)
  refine k_loopR (fun kv ls => lv_has ls 5 [(0, .ref (ad 1)), (1, .int oo), (2, .int xx), (3, .int (nI kv))] ∧ ∀ a, a < kv → mc_oneP out inp pkn oo xx a = false) pn ?_ 0 _ (Nat.zero_le _) ?_
  · intro kv ls hikv hI ihkv
    obtain ⟨hl, hno⟩ := hI
    refine lv_iload_n hx hb d_S_makesOne_2 rfl (lv_at hl 3 rfl) ?_
    refine lv_aload_n hx hb d_S_makesOne_3 rfl (lv_at hl 0 rfl) ?_
    refine va_get (D := (dC, dI)) (ci := 2) (v := .int (nI pn)) (C := R_S) (T := F_S) (N := 8) hx hb hts (hin_of in_S) hown hK hP 0 rfl rfl 1 (by decide) (hw_of hts mw_140) (fun _ h9 => h9) rfl d_S_makesOne_4 ?_
    refine k_ge (a := kv) (b := pn) (tgt := 60) hx hb rfl rfl (by omega) (by omega) d_S_makesOne_7 (by decide) (fun c_7 => ?_) (fun c_7 => ?_)
    · obtain rfl : pn = kv := by omega
      refine lv_iconst (v := 0) hx hb d_S_makesOne_60 (by decide) ?_
      exact W.zret (v := 0) hx hb hr rfl (fun t ht hW => ⟨0, rfl, by rw [exn_false hno]; rfl, ht⟩) (fun q h => by cases h) d_S_makesOne_61
    · refine lv_aload_n hx hb d_S_makesOne_10 rfl (lv_at hl 0 rfl) ?_
      refine va_get (D := (dC, dI)) (ci := 2) (v := .ref (ad 6)) (C := R_S) (T := F_S) (N := 8) hx hb hts (hin_of in_S) hown hK hP 0 rfl rfl 0 (by decide) (hw_of hts mw_138) (fun _ h9 => h9) rfl d_S_makesOne_11 ?_
      refine lv_iload_n hx hb d_S_makesOne_14 rfl (lv_at hl 3 rfl) ?_
      refine k_iald (k := kv) hx hb hK hP 2 0 rfl rfl rfl (by omega) (by decide) d_S_makesOne_15 ?_
      rw [(hpk kv c_7).1]
      refine lv_istore (lv' := [(4, .int (nI (pkn kv))), (0, .ref (ad 1)), (1, .int oo), (2, .int xx), (3, .int (nI kv))]) hx hb d_S_makesOne_16 hl (by decide) rfl (fun ls hl => ?_)
      have hpq := (hpk kv c_7).2
      refine lv_aload_n hx hb d_S_makesOne_18 rfl (lv_at hl 1 rfl) ?_
      refine va_get (D := (dC, dI)) (ci := 2) (v := .ref (ad 2)) (C := R_S) (T := F_S) (N := 8) hx hb hts (hin_of in_S) hown hK hP 0 rfl rfl 3 (by decide) (hw_of hts mw_144) (fun _ h9 => h9) rfl d_S_makesOne_19 ?_
      refine va_get (D := (dC, dI)) (ci := 0) (v := .ref (ad 10)) (C := R_T) (T := F_T) (N := 10) hx hb hts (hin_of in_T) hown hK hP 1 rfl rfl 1 (by decide) (hw_of hts mw_99) (fun _ h9 => h9) rfl d_S_makesOne_22 ?_
      refine lv_iload hx hb d_S_makesOne_25 (lv_at hl 0 rfl) ?_
      refine k_iald (k := pkn kv) hx hb hK hP 3 1 rfl rfl rfl (by omega) (by decide) d_S_makesOne_27 ?_
      refine lv_iload_n hx hb d_S_makesOne_28 rfl (lv_at hl 2 rfl) ?_
      refine lv_ishr hx hb d_S_makesOne_29 ?_
      refine lv_iconst (v := 1) hx hb d_S_makesOne_30 (by decide) ?_
      refine lv_iand hx hb d_S_makesOne_31 ?_
      refine lv_if_eq (tgt := 54) hx hb d_S_makesOne_32 (by decide) (fun c_32 => ?_) (fun c_32 => ?_)
      · refine lv_iinc (v := nI (kv + 1)) (lv' := [(3, .int (nI (kv + 1))), (4, .int (nI (pkn kv))), (0, .ref (ad 1)), (1, .int oo), (2, .int xx)]) hx hb d_S_makesOne_54 hl (k := 4) rfl (k_inc _) (by decide) rfl (fun ls hl => ?_)
        refine lv_goto (tgt := 2) hx hb d_S_makesOne_57 (by decide) ?_
        refine ihkv _ (by omega) ?_
        exact ⟨lv_sub hl [2, 3, 4, 0] rfl, lt_s hno (by unfold mc_oneP; (first | rw [decide_eq_true c_7] | rw [decide_eq_false c_7] | rw [decide_eq_false (Nat.not_lt.mpr c_7)] | rw [decide_eq_false (Nat.not_le.mpr c_7)] | rw [c_7] | skip); (first | rw [decide_eq_true c_32] | rw [decide_eq_false c_32] | rw [decide_eq_false (Nat.not_lt.mpr c_32)] | rw [decide_eq_false (Nat.not_le.mpr c_32)] | rw [c_32] | skip); simp)⟩
      · refine lv_aload_n hx hb d_S_makesOne_35 rfl (lv_at hl 1 rfl) ?_
        refine va_get (D := (dC, dI)) (ci := 2) (v := .ref (ad 2)) (C := R_S) (T := F_S) (N := 8) hx hb hts (hin_of in_S) hown hK hP 0 rfl rfl 3 (by decide) (hw_of hts mw_144) (fun _ h9 => h9) rfl d_S_makesOne_36 ?_
        refine va_get (D := (dC, dI)) (ci := 0) (v := .ref (ad 12)) (C := R_T) (T := F_T) (N := 10) hx hb hts (hin_of in_T) hown hK hP 1 rfl rfl 3 (by decide) (hw_of hts mw_105) (fun _ h9 => h9) rfl d_S_makesOne_39 ?_
        refine lv_iload hx hb d_S_makesOne_42 (lv_at hl 0 rfl) ?_
        refine k_iald (k := pkn kv) hx hb hK hP 4 2 rfl rfl rfl (by omega) (by decide) d_S_makesOne_44 ?_
        refine lv_iload_n hx hb d_S_makesOne_45 rfl (lv_at hl 3 rfl) ?_
        refine lv_ishr hx hb d_S_makesOne_46 ?_
        refine lv_iconst (v := 1) hx hb d_S_makesOne_47 (by decide) ?_
        refine lv_iand hx hb d_S_makesOne_48 ?_
        refine lv_if_eq (tgt := 54) hx hb d_S_makesOne_49 (by decide) (fun c_49 => ?_) (fun c_49 => ?_)
        · refine lv_iinc (v := nI (kv + 1)) (lv' := [(3, .int (nI (kv + 1))), (4, .int (nI (pkn kv))), (0, .ref (ad 1)), (1, .int oo), (2, .int xx)]) hx hb d_S_makesOne_54 hl (k := 4) rfl (k_inc _) (by decide) rfl (fun ls hl => ?_)
          refine lv_goto (tgt := 2) hx hb d_S_makesOne_57 (by decide) ?_
          refine ihkv _ (by omega) ?_
          exact ⟨lv_sub hl [2, 3, 4, 0] rfl, lt_s hno (by unfold mc_oneP; (first | rw [decide_eq_true c_7] | rw [decide_eq_false c_7] | rw [decide_eq_false (Nat.not_lt.mpr c_7)] | rw [decide_eq_false (Nat.not_le.mpr c_7)] | rw [c_7] | skip); (first | rw [decide_eq_true c_32] | rw [decide_eq_false c_32] | rw [decide_eq_false (Nat.not_lt.mpr c_32)] | rw [decide_eq_false (Nat.not_le.mpr c_32)] | rw [c_32] | skip); (first | rw [decide_eq_true c_49] | rw [decide_eq_false c_49] | rw [decide_eq_false (Nat.not_lt.mpr c_49)] | rw [decide_eq_false (Nat.not_le.mpr c_49)] | rw [c_49] | skip); simp)⟩
        · refine lv_iconst (v := 1) hx hb d_S_makesOne_52 (by decide) ?_
          exact W.zret (v := 1) hx hb hr rfl (fun t ht hW => ⟨1, rfl, by rw [exn_true (j := kv) c_7 (by unfold mc_oneP; (first | rw [decide_eq_true c_7] | rw [decide_eq_false c_7] | rw [decide_eq_false (Nat.not_lt.mpr c_7)] | rw [decide_eq_false (Nat.not_le.mpr c_7)] | rw [c_7] | skip); (first | rw [decide_eq_true c_32] | rw [decide_eq_false c_32] | rw [decide_eq_false (Nat.not_lt.mpr c_32)] | rw [decide_eq_false (Nat.not_le.mpr c_32)] | rw [c_32] | skip); (first | rw [decide_eq_true c_49] | rw [decide_eq_false c_49] | rw [decide_eq_false (Nat.not_lt.mpr c_49)] | rw [decide_eq_false (Nat.not_le.mpr c_49)] | rw [c_49] | skip); rfl)]; rfl, ht⟩) (fun q h => by cases h) d_S_makesOne_53
  · have hdone : True := trivial
    have e_1 : nI 0 = 0 := rfl
    exact ⟨by (try rw [e_1]); exact lv_sub hl [1, 2, 3, 0] rfl, lt_0⟩
end
section
set_option maxHeartbeats 4000000 in
set_option maxRecDepth 100000 in
theorem c_howMany (l : Launch) (dC : Nat → ClassId) (dI : Nat → Nat → Nat) (ad : Nat → Nat) (ca : Nat → ClassId) (tP tI : Nat) (nn : Nat) (hnn : nn ≤ 4) : Met l y_P_howMany w_P_howMany ({ frames := 0, cells := 0, slots := 0, locals := 0 }) (kr_PX tP tI [.int (nI nn)] (dC, dI) vC [] []) (vp_Si (fun r => r = nI (tpow nn))) 0 0 (fun _ => False) := by
  refine Met.ofW (cc := b_P_howMany) (maxL := 1) (ret := (some .int)) (by decide) rfl ?_
  intro p e s m args below meth c s₁ B hml hv
  obtain ⟨⟨rfl, hP, hK⟩, hX⟩ := hv
  have hS : va_S (fun _ => False) s.heap s.heap [] := va_S.rf
  have hx := B.exec
  have hb := B.bytes
  have hr := B.returns
  have hts := atoms_spec (ws := w_P_howMany) B.pre
  have hlocks := B.notSynchronized
  have hown : s.vm.findClass R_P = some m.cls := findClass_of_methodNamed B.named
  have hl := lv_entry ([.int (nI nn)]) (n := 1) (Nat.le_of_ble_eq_true rfl)
  rw [lg_entry_eq]
  generalize (lg_sl ([.int (nI nn)]) ++ List.replicate (1 - (lg_sl ([.int (nI nn)])).length) Slot.unset).toArray = ls at hl ⊢
  have hl : lv_has ls 1 [(0, .int (nI nn))] := hl
  refine lv_iload_n hx hb d_P_howMany_0 rfl (lv_at hl 0 rfl) ?_
  refine lv_if_lt (tgt := 17) hx hb d_P_howMany_1 (by decide) (fun h => absurd h (nI_pos (by omega))) (fun _ => ?_)
  refine lv_iload_n hx hb d_P_howMany_4 rfl (lv_at hl 0 rfl) ?_
  refine lv_iconst (v := 4) hx hb d_P_howMany_5 (by decide) ?_
  refine k_gt (a := nn) (b := 4) (tgt := 17) hx hb rfl rfl (by omega) (by omega) d_P_howMany_6 (by decide) (fun c_6 => ?_) (fun c_6 => ?_)
  · exfalso; omega
  · refine va_gets (C := R_prod) (n := "POWERS") (d := "[I") hx hb hX.1.1 hS hown (hw_of hts mw_219) (fun _ h9 => h9) d_P_howMany_9 ?_
    refine lv_iload_n hx hb d_P_howMany_12 rfl (lv_at hl 0 rfl) ?_
    refine k_ti (k := nn) hx hb hX.1.2 hS rfl (by omega) (by decide) rfl d_P_howMany_13 ?_
    refine lv_goto (tgt := 18) hx hb d_P_howMany_14 (by decide) ?_
    exact W.iret (v := nI (tpow nn)) hx hb hr (fun t ht hW => ⟨nI (tpow nn), rfl, rfl, ht⟩) (fun q h => by cases h) d_P_howMany_18
set_option maxHeartbeats 4000000 in
set_option maxRecDepth 100000 in
theorem c_withoutPart (l : Launch) (dC : Nat → ClassId) (dI : Nat → Nat → Nat) (ad : Nat → Nat) (ca : Nat → ClassId) (tP tI : Nat) (pn : Nat) (kn : Nat) (hpn : pn < 81) (hkn : kn < 4) : Met l y_P_withoutPart w_P_withoutPart ({ frames := 0, cells := 0, slots := 0, locals := 0 }) (kr_PX tP tI [.int (nI pn), .int (nI kn)] (dC, dI) vC [] []) (vp_Si (fun r => r = nI (wop pn kn))) 0 0 (fun _ => False) := by
  refine Met.ofW (cc := b_P_withoutPart) (maxL := 4) (ret := (some .int)) (by decide) rfl ?_
  intro p e s m args below meth c s₁ B hml hv
  obtain ⟨⟨rfl, hP, hK⟩, hX⟩ := hv
  have hS : va_S (fun _ => False) s.heap s.heap [] := va_S.rf
  have hx := B.exec
  have hb := B.bytes
  have hr := B.returns
  have hts := atoms_spec (ws := w_P_withoutPart) B.pre
  have hlocks := B.notSynchronized
  have hown : s.vm.findClass R_P = some m.cls := findClass_of_methodNamed B.named
  have hl := lv_entry ([.int (nI pn), .int (nI kn)]) (n := 4) (Nat.le_of_ble_eq_true rfl)
  rw [lg_entry_eq]
  generalize (lg_sl ([.int (nI pn), .int (nI kn)]) ++ List.replicate (4 - (lg_sl ([.int (nI pn), .int (nI kn)])).length) Slot.unset).toArray = ls at hl ⊢
  have hl : lv_has ls 4 [(0, .int (nI pn)), (1, .int (nI kn))] := hl
  refine lv_iload_n hx hb d_P_withoutPart_0 rfl (lv_at hl 0 rfl) ?_
  refine lv_if_lt (tgt := 19) hx hb d_P_withoutPart_1 (by decide) (fun h => absurd h (nI_pos (by omega))) (fun _ => ?_)
  refine lv_iload_n hx hb d_P_withoutPart_4 rfl (lv_at hl 0 rfl) ?_
  refine lv_bipush (v := 81) hx hb d_P_withoutPart_5 (by decide) ?_
  refine k_ge (a := pn) (b := 81) (tgt := 19) hx hb rfl rfl (by omega) (by omega) d_P_withoutPart_7 (by decide) (fun c_7 => ?_) (fun c_7 => ?_)
  · exfalso; omega
  · refine lv_iload_n hx hb d_P_withoutPart_10 rfl (lv_at hl 1 rfl) ?_
    refine lv_if_lt (tgt := 19) hx hb d_P_withoutPart_11 (by decide) (fun h => absurd h (nI_pos (by omega))) (fun _ => ?_)
    refine lv_iload_n hx hb d_P_withoutPart_14 rfl (lv_at hl 1 rfl) ?_
    refine lv_iconst (v := 4) hx hb d_P_withoutPart_15 (by decide) ?_
    refine k_lt (a := kn) (b := 4) (tgt := 21) hx hb rfl rfl (by omega) (by omega) d_P_withoutPart_16 (by decide) (fun c_16 => ?_) (fun c_16 => ?_)
    · refine va_gets (C := R_prod) (n := "POWERS") (d := "[I") hx hb hX.1.1 hS hown (hw_of hts mw_219) (fun _ h9 => h9) d_P_withoutPart_21 ?_
      refine lv_iload_n hx hb d_P_withoutPart_24 rfl (lv_at hl 1 rfl) ?_
      refine k_ti (k := kn) hx hb hX.1.2 hS rfl (by omega) (by decide) rfl d_P_withoutPart_25 ?_
      refine lv_istore_n (lv' := [(2, .int (nI (tpow kn))), (0, .int (nI pn)), (1, .int (nI kn))]) hx hb d_P_withoutPart_26 rfl hl (by decide) rfl (fun ls hl => ?_)
      refine lv_iload_n hx hb d_P_withoutPart_27 rfl (lv_at hl 0 rfl) ?_
      refine lv_if_ne (tgt := 35) hx hb d_P_withoutPart_28 (by decide) (fun c_28 => ?_) (fun c_28 => ?_)
      · refine lv_iload_n hx hb d_P_withoutPart_35 rfl (lv_at hl 1 rfl) ?_
        refine lv_iload_n hx hb d_P_withoutPart_36 rfl (lv_at hl 0 rfl) ?_
        refine k_idiv (a := pn) (b := tpow kn) hx hb rfl rfl (by omega) (tpow_pos kn) (tpow_lt hkn) d_P_withoutPart_37 ?_
        refine lv_iconst (v := 3) hx hb d_P_withoutPart_38 (by decide) ?_
        refine k_irem (a := pn / (tpow kn)) (b := 3) hx hb rfl rfl (div_lt hpn) (by omega) (by omega) d_P_withoutPart_39 ?_
        refine lv_istore_n (lv' := [(3, .int (nI ((pn / (tpow kn)) % 3))), (2, .int (nI (tpow kn))), (0, .int (nI pn)), (1, .int (nI kn))]) hx hb d_P_withoutPart_40 rfl hl (by decide) rfl (fun ls hl => ?_)
        refine lv_iload_n hx hb d_P_withoutPart_41 rfl (lv_at hl 2 rfl) ?_
        refine lv_iload_n hx hb d_P_withoutPart_42 rfl (lv_at hl 0 rfl) ?_
        refine lv_iload_n hx hb d_P_withoutPart_43 rfl (lv_at hl 1 rfl) ?_
        refine k_imul (a := (pn / (tpow kn)) % 3) (b := tpow kn) hx hb rfl rfl d_P_withoutPart_44 ?_
        refine k_isub (a := pn) (b := ((pn / (tpow kn)) % 3) * (tpow kn)) hx hb rfl rfl (wop_le pn kn) d_P_withoutPart_45 ?_
        exact W.iret (v := nI (pn - (((pn / (tpow kn)) % 3) * (tpow kn)))) hx hb hr (fun t ht hW => ⟨nI (pn - (((pn / (tpow kn)) % 3) * (tpow kn))), rfl, rfl, ht⟩) (fun q h => by cases h) d_P_withoutPart_46
      · exact absurd c_28 (nI_ne0 (tpow_pos kn) (tpow_lt hkn))
    · exfalso; omega
set_option maxHeartbeats 4000000 in
set_option maxRecDepth 100000 in
theorem c_describe (l : Launch) (dC : Nat → ClassId) (dI : Nat → Nat → Nat) (ad : Nat → Nat) (ca : Nat → ClassId) (tP tI : Nat) (pin : Nat → Int32) (psz : Nat → Int32) (pn : Nat) (hpn : pn < 81) (sz : Nat) : Met l y_P_describe w_P_describe ({ frames := 0, cells := 0, slots := 0, locals := 0 }) (kw_PX tP tI [.ref (ad 3), .int (nI pn)] sz (dC, dI) vC [(ad 3, eP ad), (ad 15, eI 81 (ca 15) pin), (ad 16, eI 81 (ca 16) psz)] [(ca 15, .int), (ca 16, .int)]) (kw_Qv (dC, dI) vC [(ca 15, .int), (ca 16, .int)] (va_A [(ad 3, eP ad), (ad 15, eI 81 (ca 15) pin), (ad 16, eI 81 (ca 16) psz)] sz) [(ad 3, eP ad), (ad 15, eI 81 (ca 15) (upd pin pn (nI (fo (mc_dsf pn) 4 (65535, 0)).1))), (ad 16, eI 81 (ca 16) (upd psz pn (nI (fo (mc_dsf pn) 4 (65535, 0)).2)))]) 0 0 (va_A [(ad 3, eP ad), (ad 15, eI 81 (ca 15) pin), (ad 16, eI 81 (ca 16) psz)] sz) := by
  refine Met.ofW (cc := b_P_describe) (maxL := 7) (ret := none) (by decide) rfl ?_
  intro p e s m args below meth c s₁ B hml hv
  obtain ⟨⟨rfl, hsz, hP, hK, hD0⟩, hX⟩ := hv
  have hx := B.exec
  have hb := B.bytes
  have hr := B.returns
  have hts := atoms_spec (ws := w_P_describe) B.pre
  have hlocks := B.notSynchronized
  have hown : s.vm.findClass R_P = some m.cls := findClass_of_methodNamed B.named
  subst hsz
  have hD := hD0.self (sz := s.heap.size)
  generalize hAe : va_A [(ad 3, eP ad), (ad 15, eI 81 (ca 15) pin), (ad 16, eI 81 (ca 16) psz)] s.heap.size = A at hD hX ⊢
  have hA : ∀ q : Nat, s.heap.size ≤ q → A q := fun q h => by rw [← hAe]; exact Or.inr h
  have hS : va_S A s.heap s.heap [] := va_S.rf
  have hP : va_P (dC, dI) vC [(ad 3, eP ad), (ad 15, eI 81 (ca 15) pin), (ad 16, eI 81 (ca 16) psz)] s.heap := hP
  have hl := lv_entry ([.ref (ad 3), .int (nI pn)]) (n := 7) (Nat.le_of_ble_eq_true rfl)
  rw [lg_entry_eq]
  generalize (lg_sl ([.ref (ad 3), .int (nI pn)]) ++ List.replicate (7 - (lg_sl ([.ref (ad 3), .int (nI pn)])).length) Slot.unset).toArray = ls at hl ⊢
  have hl : lv_has ls 7 [(0, .ref (ad 3)), (1, .int (nI pn))] := hl
  refine lv_ldc hx hb hown (hw_of hts mw_82) d_P_describe_0 ?_
  refine lv_istore_n (lv' := [(2, .int 65535), (0, .ref (ad 3)), (1, .int (nI pn))]) hx hb d_P_describe_2 rfl hl (by decide) rfl (fun ls hl => ?_)
  refine lv_iconst (v := 0) hx hb d_P_describe_3 (by decide) ?_
  refine lv_istore_n (lv' := [(3, .int 0), (2, .int 65535), (0, .ref (ad 3)), (1, .int (nI pn))]) hx hb d_P_describe_4 rfl hl (by decide) rfl (fun ls hl => ?_)
  refine lv_iload_n hx hb d_P_describe_5 rfl (lv_at hl 3 rfl) ?_
  refine lv_istore (lv' := [(4, .int (nI pn)), (3, .int 0), (2, .int 65535), (0, .ref (ad 3)), (1, .int (nI pn))]) hx hb d_P_describe_6 hl (by decide) rfl (fun ls hl => ?_)
  refine lv_iconst (v := 0) hx hb d_P_describe_8 (by decide) ?_
  refine lv_istore (lv' := [(5, .int 0), (4, .int (nI pn)), (3, .int 0), (2, .int 65535), (0, .ref (ad 3)), (1, .int (nI pn))]) hx hb d_P_describe_9 hl (by decide) rfl (fun ls hl => ?_)
  refine k_loopH (fun kv H locs ls => lv_has ls 7 [(0, .ref (ad 3)), (1, .int (nI pn)), (2, .int (nI (fo (mc_dsf pn) kv (65535, 0)).1)), (3, .int (nI ((fo (mc_dsf pn) kv (65535, 0)).2))), (4, .int (nI (pn / 3 ^ kv))), (5, .int (nI kv))] ∧ va_P (dC, dI) vC [(ad 3, eP ad), (ad 15, eI 81 (ca 15) pin), (ad 16, eI 81 (ca 16) psz)] H ∧ va_D A [(ad 3, eP ad), (ad 15, eI 81 (ca 15) pin), (ad 16, eI 81 (ca 16) psz)] ∧ va_S A s.heap H locs ∧ (fo (mc_dsf pn) kv (65535, 0)).1 < 65536 ∧ (fo (mc_dsf pn) kv (65535, 0)).2 ≤ kv) 4 ?_ 0 _ _ _ (Nat.zero_le _) ?_
  · intro kv H locs ls hikv hI ihkv
    obtain ⟨hl, hP, hD, hS, hlt, hle⟩ := hI
    refine lv_iload hx hb d_P_describe_11 (lv_at hl 5 rfl) ?_
    refine lv_iconst (v := 4) hx hb d_P_describe_13 (by decide) ?_
    refine k_ge (a := kv) (b := 4) (tgt := 76) hx hb rfl rfl (by omega) (by omega) d_P_describe_14 (by decide) (fun c_14 => ?_) (fun c_14 => ?_)
    · obtain rfl : 4 = kv := by omega
      refine lv_aload_n hx hb d_P_describe_76 rfl (lv_at hl 0 rfl) ?_
      refine va_get (D := (dC, dI)) (ci := 1) (v := .ref (ad 15)) (C := R_P) (T := F_P) (N := 2) hx hb hts (hin_of in_P) hown hK hP 0 rfl rfl 0 (by decide) (hw_of hts mw_85) (fun _ h9 => h9) rfl d_P_describe_77 ?_
      refine lv_iload_n hx hb d_P_describe_80 rfl (lv_at hl 1 rfl) ?_
      refine lv_iload_n hx hb d_P_describe_81 rfl (lv_at hl 2 rfl) ?_
      refine k_iast (k := pn) hx hb hK hP hD hS 1 0 rfl rfl rfl (by omega) (by decide) d_P_describe_82 (fun H locs hP hD hS => ?_)
      have hP : va_P (dC, dI) vC [(ad 3, eP ad), (ad 15, eI 81 (ca 15) (upd pin pn (nI (fo (mc_dsf pn) 4 (65535, 0)).1))), (ad 16, eI 81 (ca 16) psz)] H := hP
      have hD : va_D A [(ad 3, eP ad), (ad 15, eI 81 (ca 15) (upd pin pn (nI (fo (mc_dsf pn) 4 (65535, 0)).1))), (ad 16, eI 81 (ca 16) psz)] := hD
      refine lv_aload_n hx hb d_P_describe_83 rfl (lv_at hl 0 rfl) ?_
      refine va_get (D := (dC, dI)) (ci := 1) (v := .ref (ad 16)) (C := R_P) (T := F_P) (N := 2) hx hb hts (hin_of in_P) hown hK hP 0 rfl rfl 1 (by decide) (hw_of hts mw_87) (fun _ h9 => h9) rfl d_P_describe_84 ?_
      refine lv_iload_n hx hb d_P_describe_87 rfl (lv_at hl 1 rfl) ?_
      refine lv_iload_n hx hb d_P_describe_88 rfl (lv_at hl 3 rfl) ?_
      refine k_iast (k := pn) hx hb hK hP hD hS 2 1 rfl rfl rfl (by omega) (by decide) d_P_describe_89 (fun H locs hP hD hS => ?_)
      have hP : va_P (dC, dI) vC [(ad 3, eP ad), (ad 15, eI 81 (ca 15) (upd pin pn (nI (fo (mc_dsf pn) 4 (65535, 0)).1))), (ad 16, eI 81 (ca 16) (upd psz pn (nI ((fo (mc_dsf pn) 4 (65535, 0)).2))))] H := hP
      have hD : va_D A [(ad 3, eP ad), (ad 15, eI 81 (ca 15) (upd pin pn (nI (fo (mc_dsf pn) 4 (65535, 0)).1))), (ad 16, eI 81 (ca 16) (upd psz pn (nI ((fo (mc_dsf pn) 4 (65535, 0)).2))))] := hD
      have e_1 : upd psz pn (nI (fo (mc_dsf pn) 4 (65535, 0)).2) = upd psz pn (nI ((fo (mc_dsf pn) 4 (65535, 0)).2)) := rfl
      exact W.vret hx hb hr (fun t ht hW => by (try rw [e_1]); exact kw_endv hP hD hK hS [0, 1, 2] rfl (by decide) rfl ht hW.alike) hS.2.2 d_P_describe_90
    · refine lv_iload hx hb d_P_describe_17 (lv_at hl 4 rfl) ?_
      refine lv_iconst (v := 3) hx hb d_P_describe_19 (by decide) ?_
      refine k_irem (a := pn / 3 ^ kv) (b := 3) hx hb rfl rfl (div_lt hpn) (by omega) (by omega) d_P_describe_20 ?_
      refine lv_istore (lv' := [(6, .int (nI ((pn / 3 ^ kv) % 3))), (0, .ref (ad 3)), (1, .int (nI pn)), (2, .int (nI (fo (mc_dsf pn) kv (65535, 0)).1)), (3, .int (nI ((fo (mc_dsf pn) kv (65535, 0)).2))), (4, .int (nI (pn / 3 ^ kv))), (5, .int (nI kv))]) hx hb d_P_describe_21 hl (by decide) rfl (fun ls hl => ?_)
      refine lv_iload hx hb d_P_describe_23 (lv_at hl 5 rfl) ?_
      refine lv_iconst (v := 3) hx hb d_P_describe_25 (by decide) ?_
      refine k_idiv (a := pn / 3 ^ kv) (b := 3) hx hb rfl rfl (div_lt hpn) (by omega) (by omega) d_P_describe_26 ?_
      refine lv_istore (lv' := [(4, .int (nI ((pn / 3 ^ kv) / 3))), (6, .int (nI ((pn / 3 ^ kv) % 3))), (0, .ref (ad 3)), (1, .int (nI pn)), (2, .int (nI (fo (mc_dsf pn) kv (65535, 0)).1)), (3, .int (nI ((fo (mc_dsf pn) kv (65535, 0)).2))), (5, .int (nI kv))]) hx hb d_P_describe_27 hl (by decide) rfl (fun ls hl => ?_)
      refine lv_iload hx hb d_P_describe_29 (lv_at hl 1 rfl) ?_
      refine lv_iconst (v := 1) hx hb d_P_describe_31 (by decide) ?_
      refine k_ne (a := (pn / 3 ^ kv) % 3) (b := 1) (tgt := 50) hx hb rfl rfl (by omega) (by omega) d_P_describe_32 (by decide) (fun c_32 => ?_) (fun c_32 => ?_)
      · refine lv_iload hx hb d_P_describe_50 (lv_at hl 1 rfl) ?_
        refine lv_iconst (v := 2) hx hb d_P_describe_52 (by decide) ?_
        refine k_ne (a := (pn / 3 ^ kv) % 3) (b := 2) (tgt := 70) hx hb rfl rfl (by omega) (by omega) d_P_describe_53 (by decide) (fun c_53 => ?_) (fun c_53 => ?_)
        · refine lv_iinc (v := nI (kv + 1)) (lv' := [(5, .int (nI (kv + 1))), (4, .int (nI ((pn / 3 ^ kv) / 3))), (6, .int (nI ((pn / 3 ^ kv) % 3))), (0, .ref (ad 3)), (1, .int (nI pn)), (2, .int (nI (fo (mc_dsf pn) kv (65535, 0)).1)), (3, .int (nI ((fo (mc_dsf pn) kv (65535, 0)).2)))]) hx hb d_P_describe_70 hl (k := 6) rfl (k_inc _) (by decide) rfl (fun ls hl => ?_)
          refine lv_goto (tgt := 11) hx hb d_P_describe_73 (by decide) ?_
          refine ihkv _ _ _ (by omega) ?_
          have e_2 : nI (fo (mc_dsf pn) (kv + 1) (65535, 0)).1 = nI (fo (mc_dsf pn) kv (65535, 0)).1 := by rw [fo_s]; unfold mc_dsf; (first | rw [if_pos c_14] | rw [if_neg c_14] | rw [if_neg (by rw [c_14]; decide)] | skip); (first | rw [if_pos c_32] | rw [if_neg c_32] | rw [if_neg (by rw [c_32]; decide)] | skip); (first | rw [if_pos c_53] | rw [if_neg c_53] | rw [if_neg (by rw [c_53]; decide)] | skip); first | done | rfl | exact (nI_and _ _).symm | exact (ds_not hlt _).symm
          have e_3 : nI ((fo (mc_dsf pn) (kv + 1) (65535, 0)).2) = nI ((fo (mc_dsf pn) kv (65535, 0)).2) := by rw [fo_s]; unfold mc_dsf; (first | rw [if_pos c_14] | rw [if_neg c_14] | rw [if_neg (by rw [c_14]; decide)] | skip); (first | rw [if_pos c_32] | rw [if_neg c_32] | rw [if_neg (by rw [c_32]; decide)] | skip); (first | rw [if_pos c_53] | rw [if_neg c_53] | rw [if_neg (by rw [c_53]; decide)] | skip); try rfl
          have e_4 : nI (pn / 3 ^ (kv + 1)) = nI ((pn / 3 ^ kv) / 3) := by rw [Nat.pow_succ, Nat.div_div_eq_div_mul]
          exact ⟨by (try rw [e_2]); (try rw [e_3]); (try rw [e_4]); exact lv_sub hl [3, 4, 5, 6, 1, 0] rfl, by (try rw [e_2]); (try rw [e_3]); (try rw [e_4]); exact hP, by (try rw [e_2]); (try rw [e_3]); (try rw [e_4]); exact hD, hS, (ds_back hlt hle)⟩
        · refine lv_iload_n hx hb d_P_describe_56 rfl (lv_at hl 4 rfl) ?_
          refine va_gets (C := R_prod) (n := "INPUT_SETS") (d := "[I") hx hb hX.2.1 hS hown (hw_of hts mw_83) (fun _ h9 => h9) d_P_describe_57 ?_
          refine lv_iload hx hb d_P_describe_60 (lv_at hl 6 rfl) ?_
          refine k_ti (k := kv) hx hb hX.2.2 hS rfl (by omega) (by decide) rfl d_P_describe_62 ?_
          refine lv_iconst (v := (-1)) hx hb d_P_describe_63 (by decide) ?_
          refine lv_ixor hx hb d_P_describe_64 ?_
          refine lv_iand hx hb d_P_describe_65 ?_
          refine lv_istore_n (lv' := [(2, .int ((nI (fo (mc_dsf pn) kv (65535, 0)).1) &&& ((nI (iset kv)) ^^^ (-1)))), (4, .int (nI ((pn / 3 ^ kv) / 3))), (6, .int (nI ((pn / 3 ^ kv) % 3))), (0, .ref (ad 3)), (1, .int (nI pn)), (3, .int (nI ((fo (mc_dsf pn) kv (65535, 0)).2))), (5, .int (nI kv))]) hx hb d_P_describe_66 rfl hl (by decide) rfl (fun ls hl => ?_)
          refine lv_iinc (v := nI ((fo (mc_dsf pn) kv (65535, 0)).2 + 1)) (lv' := [(3, .int (nI ((fo (mc_dsf pn) kv (65535, 0)).2 + 1))), (2, .int ((nI (fo (mc_dsf pn) kv (65535, 0)).1) &&& ((nI (iset kv)) ^^^ (-1)))), (4, .int (nI ((pn / 3 ^ kv) / 3))), (6, .int (nI ((pn / 3 ^ kv) % 3))), (0, .ref (ad 3)), (1, .int (nI pn)), (5, .int (nI kv))]) hx hb d_P_describe_67 hl (k := 5) rfl (k_inc _) (by decide) rfl (fun ls hl => ?_)
          refine lv_iinc (v := nI (kv + 1)) (lv' := [(5, .int (nI (kv + 1))), (3, .int (nI ((fo (mc_dsf pn) kv (65535, 0)).2 + 1))), (2, .int ((nI (fo (mc_dsf pn) kv (65535, 0)).1) &&& ((nI (iset kv)) ^^^ (-1)))), (4, .int (nI ((pn / 3 ^ kv) / 3))), (6, .int (nI ((pn / 3 ^ kv) % 3))), (0, .ref (ad 3)), (1, .int (nI pn))]) hx hb d_P_describe_70 hl (k := 6) rfl (k_inc _) (by decide) rfl (fun ls hl => ?_)
          refine lv_goto (tgt := 11) hx hb d_P_describe_73 (by decide) ?_
          refine ihkv _ _ _ (by omega) ?_
          have e_5 : nI (fo (mc_dsf pn) (kv + 1) (65535, 0)).1 = (nI (fo (mc_dsf pn) kv (65535, 0)).1) &&& ((nI (iset kv)) ^^^ (-1)) := by rw [fo_s]; unfold mc_dsf; (first | rw [if_pos c_14] | rw [if_neg c_14] | rw [if_neg (by rw [c_14]; decide)] | skip); (first | rw [if_pos c_32] | rw [if_neg c_32] | rw [if_neg (by rw [c_32]; decide)] | skip); (first | rw [if_pos c_53] | rw [if_neg c_53] | rw [if_neg (by rw [c_53]; decide)] | skip); first | done | rfl | exact (nI_and _ _).symm | exact (ds_not hlt _).symm
          have e_6 : nI ((fo (mc_dsf pn) (kv + 1) (65535, 0)).2) = nI ((fo (mc_dsf pn) kv (65535, 0)).2 + 1) := by rw [fo_s]; unfold mc_dsf; (first | rw [if_pos c_14] | rw [if_neg c_14] | rw [if_neg (by rw [c_14]; decide)] | skip); (first | rw [if_pos c_32] | rw [if_neg c_32] | rw [if_neg (by rw [c_32]; decide)] | skip); (first | rw [if_pos c_53] | rw [if_neg c_53] | rw [if_neg (by rw [c_53]; decide)] | skip); try rfl
          have e_7 : nI (pn / 3 ^ (kv + 1)) = nI ((pn / 3 ^ kv) / 3) := by rw [Nat.pow_succ, Nat.div_div_eq_div_mul]
          exact ⟨by (try rw [e_5]); (try rw [e_6]); (try rw [e_7]); exact lv_sub hl [5, 6, 2, 1, 3, 0] rfl, by (try rw [e_5]); (try rw [e_6]); (try rw [e_7]); exact hP, by (try rw [e_5]); (try rw [e_6]); (try rw [e_7]); exact hD, hS, (ds_back hlt hle)⟩
      · refine lv_iload_n hx hb d_P_describe_35 rfl (lv_at hl 4 rfl) ?_
        refine va_gets (C := R_prod) (n := "INPUT_SETS") (d := "[I") hx hb hX.2.1 hS hown (hw_of hts mw_83) (fun _ h9 => h9) d_P_describe_36 ?_
        refine lv_iload hx hb d_P_describe_39 (lv_at hl 6 rfl) ?_
        refine k_ti (k := kv) hx hb hX.2.2 hS rfl (by omega) (by decide) rfl d_P_describe_41 ?_
        refine lv_iand hx hb d_P_describe_42 ?_
        refine lv_istore_n (lv' := [(2, .int ((nI (fo (mc_dsf pn) kv (65535, 0)).1) &&& (nI (iset kv)))), (4, .int (nI ((pn / 3 ^ kv) / 3))), (6, .int (nI ((pn / 3 ^ kv) % 3))), (0, .ref (ad 3)), (1, .int (nI pn)), (3, .int (nI ((fo (mc_dsf pn) kv (65535, 0)).2))), (5, .int (nI kv))]) hx hb d_P_describe_43 rfl hl (by decide) rfl (fun ls hl => ?_)
        refine lv_iinc (v := nI ((fo (mc_dsf pn) kv (65535, 0)).2 + 1)) (lv' := [(3, .int (nI ((fo (mc_dsf pn) kv (65535, 0)).2 + 1))), (2, .int ((nI (fo (mc_dsf pn) kv (65535, 0)).1) &&& (nI (iset kv)))), (4, .int (nI ((pn / 3 ^ kv) / 3))), (6, .int (nI ((pn / 3 ^ kv) % 3))), (0, .ref (ad 3)), (1, .int (nI pn)), (5, .int (nI kv))]) hx hb d_P_describe_44 hl (k := 5) rfl (k_inc _) (by decide) rfl (fun ls hl => ?_)
        refine lv_goto (tgt := 70) hx hb d_P_describe_47 (by decide) ?_
        refine lv_iinc (v := nI (kv + 1)) (lv' := [(5, .int (nI (kv + 1))), (3, .int (nI ((fo (mc_dsf pn) kv (65535, 0)).2 + 1))), (2, .int ((nI (fo (mc_dsf pn) kv (65535, 0)).1) &&& (nI (iset kv)))), (4, .int (nI ((pn / 3 ^ kv) / 3))), (6, .int (nI ((pn / 3 ^ kv) % 3))), (0, .ref (ad 3)), (1, .int (nI pn))]) hx hb d_P_describe_70 hl (k := 6) rfl (k_inc _) (by decide) rfl (fun ls hl => ?_)
        refine lv_goto (tgt := 11) hx hb d_P_describe_73 (by decide) ?_
        refine ihkv _ _ _ (by omega) ?_
        have e_8 : nI (fo (mc_dsf pn) (kv + 1) (65535, 0)).1 = (nI (fo (mc_dsf pn) kv (65535, 0)).1) &&& (nI (iset kv)) := by rw [fo_s]; unfold mc_dsf; (first | rw [if_pos c_14] | rw [if_neg c_14] | rw [if_neg (by rw [c_14]; decide)] | skip); (first | rw [if_pos c_32] | rw [if_neg c_32] | rw [if_neg (by rw [c_32]; decide)] | skip); first | done | rfl | exact (nI_and _ _).symm | exact (ds_not hlt _).symm
        have e_9 : nI ((fo (mc_dsf pn) (kv + 1) (65535, 0)).2) = nI ((fo (mc_dsf pn) kv (65535, 0)).2 + 1) := by rw [fo_s]; unfold mc_dsf; (first | rw [if_pos c_14] | rw [if_neg c_14] | rw [if_neg (by rw [c_14]; decide)] | skip); (first | rw [if_pos c_32] | rw [if_neg c_32] | rw [if_neg (by rw [c_32]; decide)] | skip); try rfl
        have e_10 : nI (pn / 3 ^ (kv + 1)) = nI ((pn / 3 ^ kv) / 3) := by rw [Nat.pow_succ, Nat.div_div_eq_div_mul]
        exact ⟨by (try rw [e_8]); (try rw [e_9]); (try rw [e_10]); exact lv_sub hl [5, 6, 2, 1, 3, 0] rfl, by (try rw [e_8]); (try rw [e_9]); (try rw [e_10]); exact hP, by (try rw [e_8]); (try rw [e_9]); (try rw [e_10]); exact hD, hS, (ds_back hlt hle)⟩
  · have hdone : True := trivial
    have e_11 : nI (fo (mc_dsf pn) 0 (65535, 0)).1 = 65535 := rfl
    have e_12 : nI ((fo (mc_dsf pn) 0 (65535, 0)).2) = 0 := rfl
    have e_13 : nI (pn / 3 ^ 0) = nI pn := by simp
    have e_14 : nI 0 = 0 := rfl
    exact ⟨by (try rw [e_11]); (try rw [e_12]); (try rw [e_13]); (try rw [e_14]); exact lv_sub hl [4, 5, 3, 2, 1, 0] rfl, by (try rw [e_11]); (try rw [e_12]); (try rw [e_13]); (try rw [e_14]); exact hP, by (try rw [e_11]); (try rw [e_12]); (try rw [e_13]); (try rw [e_14]); exact hD, hS, ⟨by show 65535 < 65536; decide, Nat.le_refl 0⟩⟩
set_option maxHeartbeats 4000000 in
set_option maxRecDepth 100000 in
theorem c_isCandidate (l : Launch) (dC : Nat → ClassId) (dI : Nat → Nat → Nat) (ad : Nat → Nat) (ca : Nat → ClassId) (tP tI : Nat) (c0 : Int32) (due : Int64) (lon : Int64) (oop : Nat → Int32) (pn : Nat) (hpn : pn < 81) : Met l y_T_isCandidate w_T_isCandidate ({ frames := 1, cells := 0, slots := 0, locals := 23 }) (kr_PX tP tI [.ref (ad 2), .int (nI pn)] (dC, dI) vC [(ad 2, eT ad c0 due lon), (ad 14, eI 81 (ca 14) oop)] [(ca 14, .int)]) (vp_Si (fun r => r = if (mc_isc oop pn) = true then 1 else 0)) 0 0 (fun _ => False) := by
  refine Met.ofW (cc := b_T_isCandidate) (maxL := 5) (ret := (some .boolean)) (by decide) rfl ?_
  intro p e s m args below meth c s₁ B hml hv
  obtain ⟨⟨rfl, hP, hK⟩, hX⟩ := hv
  have hS : va_S (fun _ => False) s.heap s.heap [] := va_S.rf
  have hx := B.exec
  have hb := B.bytes
  have hr := B.returns
  have hts := atoms_spec (ws := w_T_isCandidate) B.pre
  have hlocks := B.notSynchronized
  have hown : s.vm.findClass R_T = some m.cls := findClass_of_methodNamed B.named
  have hl := lv_entry ([.ref (ad 2), .int (nI pn)]) (n := 5) (Nat.le_of_ble_eq_true rfl)
  rw [lg_entry_eq]
  generalize (lg_sl ([.ref (ad 2), .int (nI pn)]) ++ List.replicate (5 - (lg_sl ([.ref (ad 2), .int (nI pn)])).length) Slot.unset).toArray = ls at hl ⊢
  have hl : lv_has ls 5 [(0, .ref (ad 2)), (1, .int (nI pn))] := hl
  refine lv_aload_n hx hb d_T_isCandidate_0 rfl (lv_at hl 0 rfl) ?_
  refine va_get (D := (dC, dI)) (ci := 0) (v := .ref (ad 14)) (C := R_T) (T := F_T) (N := 10) hx hb hts (hin_of in_T) hown hK hP 0 rfl rfl 9 (by decide) (hw_of hts mw_116) (fun _ h9 => h9) rfl d_T_isCandidate_1 ?_
  refine lv_iload_n hx hb d_T_isCandidate_4 rfl (lv_at hl 1 rfl) ?_
  refine k_iald (k := pn) hx hb hK hP 1 0 rfl rfl rfl (by omega) (by decide) d_T_isCandidate_5 ?_
  refine lv_istore_n (lv' := [(2, .int (oop pn)), (0, .ref (ad 2)), (1, .int (nI pn))]) hx hb d_T_isCandidate_6 rfl hl (by decide) rfl (fun ls hl => ?_)
  refine lv_iload_n hx hb d_T_isCandidate_7 rfl (lv_at hl 0 rfl) ?_
  refine lv_if_ne (tgt := 13) hx hb d_T_isCandidate_8 (by decide) (fun c_8 => ?_) (fun c_8 => ?_)
  · refine lv_iconst (v := 0) hx hb d_T_isCandidate_13 (by decide) ?_
    refine lv_istore_n (lv' := [(3, .int 0), (2, .int (oop pn)), (0, .ref (ad 2)), (1, .int (nI pn))]) hx hb d_T_isCandidate_14 rfl hl (by decide) rfl (fun ls hl => ?_)
    refine k_loopR (fun kv ls => lv_has ls 5 [(0, .ref (ad 2)), (1, .int (nI pn)), (2, .int (oop pn)), (3, .int (nI kv))] ∧ ∀ a, a < kv → mc_wideP oop pn a = false) 4 ?_ 0 _ (Nat.zero_le _) ?_
    · intro kv ls hikv hI ihkv
      obtain ⟨hl, hno⟩ := hI
      refine lv_iload_n hx hb d_T_isCandidate_15 rfl (lv_at hl 3 rfl) ?_
      refine lv_iconst (v := 4) hx hb d_T_isCandidate_16 (by decide) ?_
      refine k_ge (a := kv) (b := 4) (tgt := 57) hx hb rfl rfl (by omega) (by omega) d_T_isCandidate_17 (by decide) (fun c_17 => ?_) (fun c_17 => ?_)
      · obtain rfl : 4 = kv := by omega
        refine lv_iconst (v := 1) hx hb d_T_isCandidate_57 (by decide) ?_
        exact W.zret (v := 1) hx hb hr rfl (fun t ht hW => ⟨1, rfl, by unfold mc_isc; rw [decide_eq_false c_8, exn_false hno]; rfl, ht⟩) (fun q h => by cases h) d_T_isCandidate_58
      · refine lv_iload_n hx hb d_T_isCandidate_20 rfl (lv_at hl 1 rfl) ?_
        refine lv_iload_n hx hb d_T_isCandidate_21 rfl (lv_at hl 3 rfl) ?_
        have hPc := hP.sub (ws' := []) [] rfl
        have hKc := hK.sub (tys' := []) [] rfl
        refine vp_callSi (W.runS (As := [.int (nI pn), .int (nI kv)]) (rest := []) ⟨hx, hb, hml, hown, hts⟩ (c_withoutPart l dC dI ad ca tP tI pn kv (by omega) (by omega)) (va_cwS 2 hts (gd_S mw_231 mw_232 mw_43 mw_233) rfl rfl rfl (by decide +kernel) ⟨Nat.le_of_ble_eq_true rfl, Nat.le_of_ble_eq_true rfl⟩) (kr_SX hKc hPc hX hS) rfl rfl hl.1 rfl (lv_room (Nat.le_of_ble_eq_true rfl)) d_T_isCandidate_22 ⟨Nat.zero_le _, Nat.zero_le _⟩) (fun r hq => ?_)
        subst hq
        refine lv_istore (lv' := [(4, .int (nI (wop pn kv))), (0, .ref (ad 2)), (1, .int (nI pn)), (2, .int (oop pn)), (3, .int (nI kv))]) hx hb d_T_isCandidate_25 hl (by decide) rfl (fun ls hl => ?_)
        have hwl := wop_le2 pn kv
        refine lv_iload hx hb d_T_isCandidate_27 (lv_at hl 0 rfl) ?_
        refine lv_iload_n hx hb d_T_isCandidate_29 rfl (lv_at hl 2 rfl) ?_
        refine k_eq (a := wop pn kv) (b := pn) (tgt := 51) hx hb rfl rfl (by omega) (by omega) d_T_isCandidate_30 (by decide) (fun c_30 => ?_) (fun c_30 => ?_)
        · refine lv_iinc (v := nI (kv + 1)) (lv' := [(3, .int (nI (kv + 1))), (4, .int (nI (wop pn kv))), (0, .ref (ad 2)), (1, .int (nI pn)), (2, .int (oop pn))]) hx hb d_T_isCandidate_51 hl (k := 4) rfl (k_inc _) (by decide) rfl (fun ls hl => ?_)
          refine lv_goto (tgt := 15) hx hb d_T_isCandidate_54 (by decide) ?_
          refine ihkv _ (by omega) ?_
          exact ⟨lv_sub hl [2, 3, 4, 0] rfl, lt_s hno (by unfold mc_wideP; (first | rw [decide_eq_true c_8] | rw [decide_eq_false c_8] | rw [decide_eq_false (Nat.not_lt.mpr c_8)] | rw [decide_eq_false (Nat.not_le.mpr c_8)] | rw [c_8] | skip); (first | rw [decide_eq_true c_17] | rw [decide_eq_false c_17] | rw [decide_eq_false (Nat.not_lt.mpr c_17)] | rw [decide_eq_false (Nat.not_le.mpr c_17)] | rw [c_17] | skip); (first | rw [decide_eq_true c_30] | rw [decide_eq_false c_30] | rw [decide_eq_false (Nat.not_lt.mpr c_30)] | rw [decide_eq_false (Nat.not_le.mpr c_30)] | rw [c_30] | skip); simp)⟩
        · refine lv_iload hx hb d_T_isCandidate_33 (lv_at hl 0 rfl) ?_
          refine lv_if_lt (tgt := 51) hx hb d_T_isCandidate_35 (by decide) (fun h => absurd h (nI_pos (by omega))) (fun _ => ?_)
          refine lv_aload_n hx hb d_T_isCandidate_38 rfl (lv_at hl 1 rfl) ?_
          refine va_get (D := (dC, dI)) (ci := 0) (v := .ref (ad 14)) (C := R_T) (T := F_T) (N := 10) hx hb hts (hin_of in_T) hown hK hP 0 rfl rfl 9 (by decide) (hw_of hts mw_116) (fun _ h9 => h9) rfl d_T_isCandidate_39 ?_
          refine lv_iload hx hb d_T_isCandidate_42 (lv_at hl 0 rfl) ?_
          refine k_iald (k := wop pn kv) hx hb hK hP 1 0 rfl rfl rfl (Nat.lt_of_le_of_lt (wop_le2 pn kv) hpn) (by decide) d_T_isCandidate_44 ?_
          refine lv_iload_n hx hb d_T_isCandidate_45 rfl (lv_at hl 3 rfl) ?_
          refine lv_icmp_ne (tgt := 51) hx hb d_T_isCandidate_46 (by decide) (fun c_46 => ?_) (fun c_46 => ?_)
          · refine lv_iinc (v := nI (kv + 1)) (lv' := [(3, .int (nI (kv + 1))), (4, .int (nI (wop pn kv))), (0, .ref (ad 2)), (1, .int (nI pn)), (2, .int (oop pn))]) hx hb d_T_isCandidate_51 hl (k := 4) rfl (k_inc _) (by decide) rfl (fun ls hl => ?_)
            refine lv_goto (tgt := 15) hx hb d_T_isCandidate_54 (by decide) ?_
            refine ihkv _ (by omega) ?_
            exact ⟨lv_sub hl [2, 3, 4, 0] rfl, lt_s hno (by unfold mc_wideP; (first | rw [decide_eq_true c_8] | rw [decide_eq_false c_8] | rw [decide_eq_false (Nat.not_lt.mpr c_8)] | rw [decide_eq_false (Nat.not_le.mpr c_8)] | rw [c_8] | skip); (first | rw [decide_eq_true c_17] | rw [decide_eq_false c_17] | rw [decide_eq_false (Nat.not_lt.mpr c_17)] | rw [decide_eq_false (Nat.not_le.mpr c_17)] | rw [c_17] | skip); (first | rw [decide_eq_true c_30] | rw [decide_eq_false c_30] | rw [decide_eq_false (Nat.not_lt.mpr c_30)] | rw [decide_eq_false (Nat.not_le.mpr c_30)] | rw [c_30] | skip); (first | rw [decide_eq_true c_46] | rw [decide_eq_false c_46] | rw [decide_eq_false (Nat.not_lt.mpr c_46)] | rw [decide_eq_false (Nat.not_le.mpr c_46)] | rw [c_46] | skip); simp)⟩
          · refine lv_iconst (v := 0) hx hb d_T_isCandidate_49 (by decide) ?_
            exact W.zret (v := 0) hx hb hr rfl (fun t ht hW => ⟨0, rfl, by unfold mc_isc; rw [exn_true (j := kv) (by omega) (by unfold mc_wideP; (first | rw [decide_eq_true c_8] | rw [decide_eq_false c_8] | rw [decide_eq_false (Nat.not_lt.mpr c_8)] | rw [decide_eq_false (Nat.not_le.mpr c_8)] | rw [c_8] | skip); (first | rw [decide_eq_true c_17] | rw [decide_eq_false c_17] | rw [decide_eq_false (Nat.not_lt.mpr c_17)] | rw [decide_eq_false (Nat.not_le.mpr c_17)] | rw [c_17] | skip); (first | rw [decide_eq_true c_30] | rw [decide_eq_false c_30] | rw [decide_eq_false (Nat.not_lt.mpr c_30)] | rw [decide_eq_false (Nat.not_le.mpr c_30)] | rw [c_30] | skip); (first | rw [decide_eq_true c_46] | rw [decide_eq_false c_46] | rw [decide_eq_false (Nat.not_lt.mpr c_46)] | rw [decide_eq_false (Nat.not_le.mpr c_46)] | rw [c_46] | skip); rfl), Bool.not_true, Bool.and_false]; rfl, ht⟩) (fun q h => by cases h) d_T_isCandidate_50
    · have hdone : True := trivial
      have e_1 : nI 0 = 0 := rfl
      exact ⟨by (try rw [e_1]); exact lv_sub hl [2, 3, 1, 0] rfl, lt_0⟩
  · refine lv_iconst (v := 0) hx hb d_T_isCandidate_11 (by decide) ?_
    exact W.zret (v := 0) hx hb hr rfl (fun t ht hW => ⟨0, rfl, by unfold mc_isc; rw [decide_eq_true c_8]; rfl, ht⟩) (fun q h => by cases h) d_T_isCandidate_12
end
section
set_option maxHeartbeats 4000000 in
set_option maxRecDepth 100000 in
theorem c_fill (l : Launch) (dC : Nat → ClassId) (dI : Nat → Nat → Nat) (ad : Nat → Nat) (ca : Nat → ClassId) (tP tI : Nat) (c0 : Int32) (due : Int64) (lon : Int64) (one : Nat → Int32) (zer : Nat → Int32) (num : Nat → Int32) (out : Nat → Int32) (siz : Nat → Int32) (inp : Nat → Int32) (pla : Nat → Int64) (oop : Nat → Int32) (pin : Nat → Int32) (psz : Nat → Int32) (nn : Nat) (mo : Nat) (hnn : nn ≤ 4) (hmo : mo ≤ 2) (sz : Nat) : Met l y_T_fill w_T_fill ({ frames := 2, cells := 0, slots := 0, locals := 60 }) (kw_PX tP tI [.ref (ad 2), .int (nI nn), .int (nI mo), .ref (ad 4), .ref (ad 5)] sz (dC, dI) vC [(ad 2, eT ad c0 due lon), (ad 3, eP ad), (ad 4, eI 2 (ca 4) one), (ad 5, eI 2 (ca 5) zer), (ad 9, eI 81 (ca 9) num), (ad 10, eI 81 (ca 10) out), (ad 11, eI 81 (ca 11) siz), (ad 12, eI 81 (ca 12) inp), (ad 13, eL 81 (ca 13) pla), (ad 14, eI 81 (ca 14) oop), (ad 15, eI 81 (ca 15) pin), (ad 16, eI 81 (ca 16) psz)] [(ca 4, .int), (ca 5, .int), (ca 9, .int), (ca 10, .int), (ca 11, .int), (ca 12, .int), (ca 13, .long), (ca 14, .int), (ca 15, .int), (ca 16, .int)]) (kw_Qv (dC, dI) vC [(ca 4, .int), (ca 5, .int), (ca 9, .int), (ca 10, .int), (ca 11, .int), (ca 12, .int), (ca 13, .long), (ca 14, .int), (ca 15, .int), (ca 16, .int)] (va_A [(ad 2, eT ad c0 due lon), (ad 3, eP ad), (ad 4, eI 2 (ca 4) one), (ad 5, eI 2 (ca 5) zer), (ad 9, eI 81 (ca 9) num), (ad 10, eI 81 (ca 10) out), (ad 11, eI 81 (ca 11) siz), (ad 12, eI 81 (ca 12) inp), (ad 13, eL 81 (ca 13) pla), (ad 14, eI 81 (ca 14) oop), (ad 15, eI 81 (ca 15) pin), (ad 16, eI 81 (ca 16) psz)] sz) [(ad 2, eT ad (nI ((fo (mc_filf one pin psz (fo (mc_oof pin zer mo) (tpow nn) oop)) (tpow nn) (0, num, out, siz, inp, pla)).1)) (fo (mc_plf one 3) 2 0) (mc_lon (fo (mc_filf one pin psz (fo (mc_oof pin zer mo) (tpow nn) oop)) (tpow nn) (0, num, out, siz, inp, pla)).2.2.2.2.2 (fo (mc_filf one pin psz (fo (mc_oof pin zer mo) (tpow nn) oop)) (tpow nn) (0, num, out, siz, inp, pla)).1)), (ad 3, eP ad), (ad 4, eI 2 (ca 4) one), (ad 5, eI 2 (ca 5) zer), (ad 9, eI 81 (ca 9) ((fo (mc_filf one pin psz (fo (mc_oof pin zer mo) (tpow nn) oop)) (tpow nn) (0, num, out, siz, inp, pla)).2.1)), (ad 10, eI 81 (ca 10) ((fo (mc_filf one pin psz (fo (mc_oof pin zer mo) (tpow nn) oop)) (tpow nn) (0, num, out, siz, inp, pla)).2.2.1)), (ad 11, eI 81 (ca 11) ((fo (mc_filf one pin psz (fo (mc_oof pin zer mo) (tpow nn) oop)) (tpow nn) (0, num, out, siz, inp, pla)).2.2.2.1)), (ad 12, eI 81 (ca 12) ((fo (mc_filf one pin psz (fo (mc_oof pin zer mo) (tpow nn) oop)) (tpow nn) (0, num, out, siz, inp, pla)).2.2.2.2.1)), (ad 13, eL 81 (ca 13) ((fo (mc_filf one pin psz (fo (mc_oof pin zer mo) (tpow nn) oop)) (tpow nn) (0, num, out, siz, inp, pla)).2.2.2.2.2)), (ad 14, eI 81 (ca 14) (fo (mc_oof pin zer mo) (tpow nn) oop)), (ad 15, eI 81 (ca 15) pin), (ad 16, eI 81 (ca 16) psz)]) 0 0 (va_A [(ad 2, eT ad c0 due lon), (ad 3, eP ad), (ad 4, eI 2 (ca 4) one), (ad 5, eI 2 (ca 5) zer), (ad 9, eI 81 (ca 9) num), (ad 10, eI 81 (ca 10) out), (ad 11, eI 81 (ca 11) siz), (ad 12, eI 81 (ca 12) inp), (ad 13, eL 81 (ca 13) pla), (ad 14, eI 81 (ca 14) oop), (ad 15, eI 81 (ca 15) pin), (ad 16, eI 81 (ca 16) psz)] sz) := by
  refine Met.ofW (cc := b_T_fill) (maxL := 7) (ret := none) (by decide) rfl ?_
  intro p e s m args below meth c s₁ B hml hv
  obtain ⟨⟨rfl, hsz, hP, hK, hD0⟩, hX⟩ := hv
  have hx := B.exec
  have hb := B.bytes
  have hr := B.returns
  have hts := atoms_spec (ws := w_T_fill) B.pre
  have hlocks := B.notSynchronized
  have hown : s.vm.findClass R_T = some m.cls := findClass_of_methodNamed B.named
  subst hsz
  have hD := hD0.self (sz := s.heap.size)
  generalize hAe : va_A [(ad 2, eT ad c0 due lon), (ad 3, eP ad), (ad 4, eI 2 (ca 4) one), (ad 5, eI 2 (ca 5) zer), (ad 9, eI 81 (ca 9) num), (ad 10, eI 81 (ca 10) out), (ad 11, eI 81 (ca 11) siz), (ad 12, eI 81 (ca 12) inp), (ad 13, eL 81 (ca 13) pla), (ad 14, eI 81 (ca 14) oop), (ad 15, eI 81 (ca 15) pin), (ad 16, eI 81 (ca 16) psz)] s.heap.size = A at hD hX ⊢
  have hA : ∀ q : Nat, s.heap.size ≤ q → A q := fun q h => by rw [← hAe]; exact Or.inr h
  have hS : va_S A s.heap s.heap [] := va_S.rf
  have hP : va_P (dC, dI) vC [(ad 2, eT ad c0 due lon), (ad 3, eP ad), (ad 4, eI 2 (ca 4) one), (ad 5, eI 2 (ca 5) zer), (ad 9, eI 81 (ca 9) num), (ad 10, eI 81 (ca 10) out), (ad 11, eI 81 (ca 11) siz), (ad 12, eI 81 (ca 12) inp), (ad 13, eL 81 (ca 13) pla), (ad 14, eI 81 (ca 14) oop), (ad 15, eI 81 (ca 15) pin), (ad 16, eI 81 (ca 16) psz)] s.heap := hP
  have hl := lv_entry ([.ref (ad 2), .int (nI nn), .int (nI mo), .ref (ad 4), .ref (ad 5)]) (n := 7) (Nat.le_of_ble_eq_true rfl)
  rw [lg_entry_eq]
  generalize (lg_sl ([.ref (ad 2), .int (nI nn), .int (nI mo), .ref (ad 4), .ref (ad 5)]) ++ List.replicate (7 - (lg_sl ([.ref (ad 2), .int (nI nn), .int (nI mo), .ref (ad 4), .ref (ad 5)])).length) Slot.unset).toArray = ls at hl ⊢
  have hl : lv_has ls 7 [(0, .ref (ad 2)), (1, .int (nI nn)), (2, .int (nI mo)), (3, .ref (ad 4)), (4, .ref (ad 5))] := hl
  have h81 := tpow_81 hnn
  refine lv_iload_n hx hb d_T_fill_0 rfl (lv_at hl 1 rfl) ?_
  have hPc := hP.sub (ws' := []) [] rfl
  have hKc := hK.sub (tys' := []) [] rfl
  refine vp_callSi (W.runS (As := [.int (nI nn)]) (rest := []) ⟨hx, hb, hml, hown, hts⟩ (c_howMany l dC dI ad ca tP tI nn (by omega)) (va_cwS 1 hts (gd_S mw_216 mw_217 mw_43 mw_218) rfl rfl rfl (by decide +kernel) ⟨Nat.le_of_ble_eq_true rfl, Nat.le_of_ble_eq_true rfl⟩) (kr_SX hKc hPc hX hS) rfl rfl hl.1 rfl (lv_room (Nat.le_of_ble_eq_true rfl)) d_T_fill_1 ⟨Nat.zero_le _, Nat.zero_le _⟩) (fun r hq => ?_)
  subst hq
  refine lv_istore (lv' := [(5, .int (nI (tpow nn))), (0, .ref (ad 2)), (1, .int (nI nn)), (2, .int (nI mo)), (3, .ref (ad 4)), (4, .ref (ad 5))]) hx hb d_T_fill_4 hl (by decide) rfl (fun ls hl => ?_)
  refine lv_iconst (v := 0) hx hb d_T_fill_6 (by decide) ?_
  refine lv_istore (lv' := [(6, .int 0), (5, .int (nI (tpow nn))), (0, .ref (ad 2)), (1, .int (nI nn)), (2, .int (nI mo)), (3, .ref (ad 4)), (4, .ref (ad 5))]) hx hb d_T_fill_7 hl (by decide) rfl (fun ls hl => ?_)
  refine k_loopH (fun iv H locs ls => lv_has ls 7 [(0, .ref (ad 2)), (1, .int (nI nn)), (2, .int (nI mo)), (3, .ref (ad 4)), (4, .ref (ad 5)), (5, .int (nI (tpow nn))), (6, .int (nI iv))] ∧ va_P (dC, dI) vC [(ad 2, eT ad c0 due lon), (ad 3, eP ad), (ad 4, eI 2 (ca 4) one), (ad 5, eI 2 (ca 5) zer), (ad 9, eI 81 (ca 9) num), (ad 10, eI 81 (ca 10) out), (ad 11, eI 81 (ca 11) siz), (ad 12, eI 81 (ca 12) inp), (ad 13, eL 81 (ca 13) pla), (ad 14, eI 81 (ca 14) (fo (mc_oof pin zer mo) iv oop)), (ad 15, eI 81 (ca 15) pin), (ad 16, eI 81 (ca 16) psz)] H ∧ va_D A [(ad 2, eT ad c0 due lon), (ad 3, eP ad), (ad 4, eI 2 (ca 4) one), (ad 5, eI 2 (ca 5) zer), (ad 9, eI 81 (ca 9) num), (ad 10, eI 81 (ca 10) out), (ad 11, eI 81 (ca 11) siz), (ad 12, eI 81 (ca 12) inp), (ad 13, eL 81 (ca 13) pla), (ad 14, eI 81 (ca 14) (fo (mc_oof pin zer mo) iv oop)), (ad 15, eI 81 (ca 15) pin), (ad 16, eI 81 (ca 16) psz)] ∧ va_S A s.heap H locs ∧ True) (tpow nn) ?_ 0 _ _ _ (Nat.zero_le _) ?_
  · intro iv H locs ls hiiv hI ihiv
    obtain ⟨hl, hP, hD, hS, -⟩ := hI
    refine lv_iload hx hb d_T_fill_9 (lv_at hl 6 rfl) ?_
    refine lv_iload hx hb d_T_fill_11 (lv_at hl 5 rfl) ?_
    refine k_ge (a := iv) (b := tpow nn) (tgt := 52) hx hb rfl rfl (by omega) (by omega) d_T_fill_13 (by decide) (fun c_13 => ?_) (fun c_13 => ?_)
    · obtain rfl : tpow nn = iv := by omega
      refine lv_aload_n hx hb d_T_fill_52 rfl (lv_at hl 0 rfl) ?_
      refine lv_aload_n hx hb d_T_fill_53 rfl (lv_at hl 3 rfl) ?_
      refine lv_iconst (v := 3) hx hb d_T_fill_54 (by decide) ?_
      have hPc := hP.sub (ws' := [(ad 4, eI 2 (ca 4) one)]) [2] rfl
      have hKc := hK.sub (tys' := [(ca 4, .int)]) [0] rfl
      refine vp_callSl (W.runS (As := [.ref (ad 4), .int 3]) (rest := [.ref (ad 2)]) ⟨hx, hb, hml, hown, hts⟩ (c_placesOf l dC dI ad ca one 3) (va_cwS 2 hts (gd_S mw_224 mw_225 mw_42 mw_226) rfl rfl rfl (by decide +kernel) ⟨Nat.le_of_ble_eq_true rfl, Nat.le_of_ble_eq_true rfl⟩) (kr_S hKc hPc) rfl rfl hl.1 rfl (lv_room (Nat.le_of_ble_eq_true rfl)) d_T_fill_55 ⟨Nat.zero_le _, Nat.zero_le _⟩) (fun r hq => ?_)
      subst hq
      refine va_put (D := (dC, dI)) (ci := 0) (v := .long (fo (mc_plf one 3) 2 0)) (ty := .long) (C := R_T) (T := F_T) (N := 10) hx hb hts (hin_of in_T) ft_T tk_T nm_T hown hK hP hD hS 0 rfl rfl 6 (by decide) (hw_of hts mw_112) (fun _ h9 => h9) rfl (by decide +kernel) rfl rfl (Nat.le_of_ble_eq_true rfl) d_T_fill_58 (fun H locs hP hD hS => ?_)
      have hP : va_P (dC, dI) vC [(ad 2, eT ad c0 (fo (mc_plf one 3) 2 0) lon), (ad 3, eP ad), (ad 4, eI 2 (ca 4) one), (ad 5, eI 2 (ca 5) zer), (ad 9, eI 81 (ca 9) num), (ad 10, eI 81 (ca 10) out), (ad 11, eI 81 (ca 11) siz), (ad 12, eI 81 (ca 12) inp), (ad 13, eL 81 (ca 13) pla), (ad 14, eI 81 (ca 14) (fo (mc_oof pin zer mo) (tpow nn) oop)), (ad 15, eI 81 (ca 15) pin), (ad 16, eI 81 (ca 16) psz)] H := hP
      have hD : va_D A [(ad 2, eT ad c0 (fo (mc_plf one 3) 2 0) lon), (ad 3, eP ad), (ad 4, eI 2 (ca 4) one), (ad 5, eI 2 (ca 5) zer), (ad 9, eI 81 (ca 9) num), (ad 10, eI 81 (ca 10) out), (ad 11, eI 81 (ca 11) siz), (ad 12, eI 81 (ca 12) inp), (ad 13, eL 81 (ca 13) pla), (ad 14, eI 81 (ca 14) (fo (mc_oof pin zer mo) (tpow nn) oop)), (ad 15, eI 81 (ca 15) pin), (ad 16, eI 81 (ca 16) psz)] := hD
      refine lv_aload_n hx hb d_T_fill_61 rfl (lv_at hl 0 rfl) ?_
      refine lv_iconst (v := 0) hx hb d_T_fill_62 (by decide) ?_
      refine va_put (D := (dC, dI)) (ci := 0) (v := .int 0) (ty := .int) (C := R_T) (T := F_T) (N := 10) hx hb hts (hin_of in_T) ft_T tk_T nm_T hown hK hP hD hS 0 rfl rfl 5 (by decide) (hw_of hts mw_110) (fun _ h9 => h9) rfl (by decide +kernel) rfl rfl (Nat.le_of_ble_eq_true rfl) d_T_fill_63 (fun H locs hP hD hS => ?_)
      have hP : va_P (dC, dI) vC [(ad 2, eT ad 0 (fo (mc_plf one 3) 2 0) lon), (ad 3, eP ad), (ad 4, eI 2 (ca 4) one), (ad 5, eI 2 (ca 5) zer), (ad 9, eI 81 (ca 9) num), (ad 10, eI 81 (ca 10) out), (ad 11, eI 81 (ca 11) siz), (ad 12, eI 81 (ca 12) inp), (ad 13, eL 81 (ca 13) pla), (ad 14, eI 81 (ca 14) (fo (mc_oof pin zer mo) (tpow nn) oop)), (ad 15, eI 81 (ca 15) pin), (ad 16, eI 81 (ca 16) psz)] H := hP
      have hD : va_D A [(ad 2, eT ad 0 (fo (mc_plf one 3) 2 0) lon), (ad 3, eP ad), (ad 4, eI 2 (ca 4) one), (ad 5, eI 2 (ca 5) zer), (ad 9, eI 81 (ca 9) num), (ad 10, eI 81 (ca 10) out), (ad 11, eI 81 (ca 11) siz), (ad 12, eI 81 (ca 12) inp), (ad 13, eL 81 (ca 13) pla), (ad 14, eI 81 (ca 14) (fo (mc_oof pin zer mo) (tpow nn) oop)), (ad 15, eI 81 (ca 15) pin), (ad 16, eI 81 (ca 16) psz)] := hD
      refine lv_iconst (v := 0) hx hb d_T_fill_66 (by decide) ?_
      refine lv_istore (lv' := [(6, .int 0), (0, .ref (ad 2)), (1, .int (nI nn)), (2, .int (nI mo)), (3, .ref (ad 4)), (4, .ref (ad 5)), (5, .int (nI (tpow nn)))]) hx hb d_T_fill_67 hl (by decide) rfl (fun ls hl => ?_)
      refine k_loopH (fun jv H locs ls => lv_has ls 7 [(0, .ref (ad 2)), (1, .int (nI nn)), (2, .int (nI mo)), (3, .ref (ad 4)), (4, .ref (ad 5)), (5, .int (nI (tpow nn))), (6, .int (nI jv))] ∧ va_P (dC, dI) vC [(ad 2, eT ad (nI ((fo (mc_filf one pin psz (fo (mc_oof pin zer mo) (tpow nn) oop)) jv (0, num, out, siz, inp, pla)).1)) (fo (mc_plf one 3) 2 0) lon), (ad 3, eP ad), (ad 4, eI 2 (ca 4) one), (ad 5, eI 2 (ca 5) zer), (ad 9, eI 81 (ca 9) ((fo (mc_filf one pin psz (fo (mc_oof pin zer mo) (tpow nn) oop)) jv (0, num, out, siz, inp, pla)).2.1)), (ad 10, eI 81 (ca 10) ((fo (mc_filf one pin psz (fo (mc_oof pin zer mo) (tpow nn) oop)) jv (0, num, out, siz, inp, pla)).2.2.1)), (ad 11, eI 81 (ca 11) ((fo (mc_filf one pin psz (fo (mc_oof pin zer mo) (tpow nn) oop)) jv (0, num, out, siz, inp, pla)).2.2.2.1)), (ad 12, eI 81 (ca 12) ((fo (mc_filf one pin psz (fo (mc_oof pin zer mo) (tpow nn) oop)) jv (0, num, out, siz, inp, pla)).2.2.2.2.1)), (ad 13, eL 81 (ca 13) ((fo (mc_filf one pin psz (fo (mc_oof pin zer mo) (tpow nn) oop)) jv (0, num, out, siz, inp, pla)).2.2.2.2.2)), (ad 14, eI 81 (ca 14) (fo (mc_oof pin zer mo) (tpow nn) oop)), (ad 15, eI 81 (ca 15) pin), (ad 16, eI 81 (ca 16) psz)] H ∧ va_D A [(ad 2, eT ad (nI ((fo (mc_filf one pin psz (fo (mc_oof pin zer mo) (tpow nn) oop)) jv (0, num, out, siz, inp, pla)).1)) (fo (mc_plf one 3) 2 0) lon), (ad 3, eP ad), (ad 4, eI 2 (ca 4) one), (ad 5, eI 2 (ca 5) zer), (ad 9, eI 81 (ca 9) ((fo (mc_filf one pin psz (fo (mc_oof pin zer mo) (tpow nn) oop)) jv (0, num, out, siz, inp, pla)).2.1)), (ad 10, eI 81 (ca 10) ((fo (mc_filf one pin psz (fo (mc_oof pin zer mo) (tpow nn) oop)) jv (0, num, out, siz, inp, pla)).2.2.1)), (ad 11, eI 81 (ca 11) ((fo (mc_filf one pin psz (fo (mc_oof pin zer mo) (tpow nn) oop)) jv (0, num, out, siz, inp, pla)).2.2.2.1)), (ad 12, eI 81 (ca 12) ((fo (mc_filf one pin psz (fo (mc_oof pin zer mo) (tpow nn) oop)) jv (0, num, out, siz, inp, pla)).2.2.2.2.1)), (ad 13, eL 81 (ca 13) ((fo (mc_filf one pin psz (fo (mc_oof pin zer mo) (tpow nn) oop)) jv (0, num, out, siz, inp, pla)).2.2.2.2.2)), (ad 14, eI 81 (ca 14) (fo (mc_oof pin zer mo) (tpow nn) oop)), (ad 15, eI 81 (ca 15) pin), (ad 16, eI 81 (ca 16) psz)] ∧ va_S A s.heap H locs ∧ (fo (mc_filf one pin psz (fo (mc_oof pin zer mo) (tpow nn) oop)) jv (0, num, out, siz, inp, pla)).1 ≤ jv) (tpow nn) ?_ 0 _ _ _ (Nat.zero_le _) ?_
      · intro jv H locs ls hijv hI ihjv
        obtain ⟨hl, hP, hD, hS, hle⟩ := hI
        refine lv_iload hx hb d_T_fill_69 (lv_at hl 6 rfl) ?_
        refine lv_iload hx hb d_T_fill_71 (lv_at hl 5 rfl) ?_
        refine k_ge (a := jv) (b := tpow nn) (tgt := 114) hx hb rfl rfl (by omega) (by omega) d_T_fill_73 (by decide) (fun c_73 => ?_) (fun c_73 => ?_)
        · obtain rfl : tpow nn = jv := by omega
          refine lv_aload_n hx hb d_T_fill_114 rfl (lv_at hl 0 rfl) ?_
          have hPc := hP.sub (ws' := [(ad 2, eT ad (nI ((fo (mc_filf one pin psz (fo (mc_oof pin zer mo) (tpow nn) oop)) (tpow nn) (0, num, out, siz, inp, pla)).1)) (fo (mc_plf one 3) 2 0) lon), (ad 13, eL 81 (ca 13) ((fo (mc_filf one pin psz (fo (mc_oof pin zer mo) (tpow nn) oop)) (tpow nn) (0, num, out, siz, inp, pla)).2.2.2.2.2))]) [0, 8] rfl
          have hDc := hD.sub (ws' := [(ad 2, eT ad (nI ((fo (mc_filf one pin psz (fo (mc_oof pin zer mo) (tpow nn) oop)) (tpow nn) (0, num, out, siz, inp, pla)).1)) (fo (mc_plf one 3) 2 0) lon), (ad 13, eL 81 (ca 13) ((fo (mc_filf one pin psz (fo (mc_oof pin zer mo) (tpow nn) oop)) (tpow nn) (0, num, out, siz, inp, pla)).2.2.2.2.2))]) [0, 8] (by decide) rfl
          have hKc := hK.sub (tys' := [(ca 13, .long)]) [6] rfl
          refine kw_callv (wr := [(ad 3, eP ad), (ad 4, eI 2 (ca 4) one), (ad 5, eI 2 (ca 5) zer), (ad 9, eI 81 (ca 9) ((fo (mc_filf one pin psz (fo (mc_oof pin zer mo) (tpow nn) oop)) (tpow nn) (0, num, out, siz, inp, pla)).2.1)), (ad 10, eI 81 (ca 10) ((fo (mc_filf one pin psz (fo (mc_oof pin zer mo) (tpow nn) oop)) (tpow nn) (0, num, out, siz, inp, pla)).2.2.1)), (ad 11, eI 81 (ca 11) ((fo (mc_filf one pin psz (fo (mc_oof pin zer mo) (tpow nn) oop)) (tpow nn) (0, num, out, siz, inp, pla)).2.2.2.1)), (ad 12, eI 81 (ca 12) ((fo (mc_filf one pin psz (fo (mc_oof pin zer mo) (tpow nn) oop)) (tpow nn) (0, num, out, siz, inp, pla)).2.2.2.2.1)), (ad 14, eI 81 (ca 14) (fo (mc_oof pin zer mo) (tpow nn) oop)), (ad 15, eI 81 (ca 15) pin), (ad 16, eI 81 (ca 16) psz)]) (wf := [(ad 2, eT ad (nI ((fo (mc_filf one pin psz (fo (mc_oof pin zer mo) (tpow nn) oop)) (tpow nn) (0, num, out, siz, inp, pla)).1)) (fo (mc_plf one 3) 2 0) (mc_lon ((fo (mc_filf one pin psz (fo (mc_oof pin zer mo) (tpow nn) oop)) (tpow nn) (0, num, out, siz, inp, pla)).2.2.2.2.2) ((fo (mc_filf one pin psz (fo (mc_oof pin zer mo) (tpow nn) oop)) (tpow nn) (0, num, out, siz, inp, pla)).1))), (ad 13, eL 81 (ca 13) ((fo (mc_filf one pin psz (fo (mc_oof pin zer mo) (tpow nn) oop)) (tpow nn) (0, num, out, siz, inp, pla)).2.2.2.2.2))]) (va_runV (As := []) (rest := []) ⟨hx, hb, hml, hown, hts⟩ (c_findLonely l dC dI ad ca ((fo (mc_filf one pin psz (fo (mc_oof pin zer mo) (tpow nn) oop)) (tpow nn) (0, num, out, siz, inp, pla)).1) (by omega) (fo (mc_plf one 3) 2 0) lon ((fo (mc_filf one pin psz (fo (mc_oof pin zer mo) (tpow nn) oop)) (tpow nn) (0, num, out, siz, inp, pla)).2.2.2.2.2) _) (cwV 0 hts (gd_V mw_238 mw_240 mw_7 mw_42 mw_241) rfl rfl rfl (by decide +kernel) ⟨Nat.le_of_ble_eq_true rfl, Nat.le_of_ble_eq_true rfl⟩) (kw_V (q0 := 0) (ci := 0) hKc hPc hDc rfl rfl) rfl rfl hl.1 rfl (lv_room (Nat.le_of_ble_eq_true rfl)) d_T_fill_115 ⟨Nat.zero_le _, Nat.zero_le _⟩) hP hD hS hA [0, 8] [1, 2, 3, 4, 5, 6, 7, 9, 10, 11] rfl rfl (by decide) (by decide) (fun H locs hP hD hS => ?_)
          have hP : va_P (dC, dI) vC [(ad 3, eP ad), (ad 4, eI 2 (ca 4) one), (ad 5, eI 2 (ca 5) zer), (ad 9, eI 81 (ca 9) ((fo (mc_filf one pin psz (fo (mc_oof pin zer mo) (tpow nn) oop)) (tpow nn) (0, num, out, siz, inp, pla)).2.1)), (ad 10, eI 81 (ca 10) ((fo (mc_filf one pin psz (fo (mc_oof pin zer mo) (tpow nn) oop)) (tpow nn) (0, num, out, siz, inp, pla)).2.2.1)), (ad 11, eI 81 (ca 11) ((fo (mc_filf one pin psz (fo (mc_oof pin zer mo) (tpow nn) oop)) (tpow nn) (0, num, out, siz, inp, pla)).2.2.2.1)), (ad 12, eI 81 (ca 12) ((fo (mc_filf one pin psz (fo (mc_oof pin zer mo) (tpow nn) oop)) (tpow nn) (0, num, out, siz, inp, pla)).2.2.2.2.1)), (ad 14, eI 81 (ca 14) (fo (mc_oof pin zer mo) (tpow nn) oop)), (ad 15, eI 81 (ca 15) pin), (ad 16, eI 81 (ca 16) psz), (ad 2, eT ad (nI ((fo (mc_filf one pin psz (fo (mc_oof pin zer mo) (tpow nn) oop)) (tpow nn) (0, num, out, siz, inp, pla)).1)) (fo (mc_plf one 3) 2 0) (mc_lon ((fo (mc_filf one pin psz (fo (mc_oof pin zer mo) (tpow nn) oop)) (tpow nn) (0, num, out, siz, inp, pla)).2.2.2.2.2) ((fo (mc_filf one pin psz (fo (mc_oof pin zer mo) (tpow nn) oop)) (tpow nn) (0, num, out, siz, inp, pla)).1))), (ad 13, eL 81 (ca 13) ((fo (mc_filf one pin psz (fo (mc_oof pin zer mo) (tpow nn) oop)) (tpow nn) (0, num, out, siz, inp, pla)).2.2.2.2.2))] H := hP
          have hD : va_D A [(ad 3, eP ad), (ad 4, eI 2 (ca 4) one), (ad 5, eI 2 (ca 5) zer), (ad 9, eI 81 (ca 9) ((fo (mc_filf one pin psz (fo (mc_oof pin zer mo) (tpow nn) oop)) (tpow nn) (0, num, out, siz, inp, pla)).2.1)), (ad 10, eI 81 (ca 10) ((fo (mc_filf one pin psz (fo (mc_oof pin zer mo) (tpow nn) oop)) (tpow nn) (0, num, out, siz, inp, pla)).2.2.1)), (ad 11, eI 81 (ca 11) ((fo (mc_filf one pin psz (fo (mc_oof pin zer mo) (tpow nn) oop)) (tpow nn) (0, num, out, siz, inp, pla)).2.2.2.1)), (ad 12, eI 81 (ca 12) ((fo (mc_filf one pin psz (fo (mc_oof pin zer mo) (tpow nn) oop)) (tpow nn) (0, num, out, siz, inp, pla)).2.2.2.2.1)), (ad 14, eI 81 (ca 14) (fo (mc_oof pin zer mo) (tpow nn) oop)), (ad 15, eI 81 (ca 15) pin), (ad 16, eI 81 (ca 16) psz), (ad 2, eT ad (nI ((fo (mc_filf one pin psz (fo (mc_oof pin zer mo) (tpow nn) oop)) (tpow nn) (0, num, out, siz, inp, pla)).1)) (fo (mc_plf one 3) 2 0) (mc_lon ((fo (mc_filf one pin psz (fo (mc_oof pin zer mo) (tpow nn) oop)) (tpow nn) (0, num, out, siz, inp, pla)).2.2.2.2.2) ((fo (mc_filf one pin psz (fo (mc_oof pin zer mo) (tpow nn) oop)) (tpow nn) (0, num, out, siz, inp, pla)).1))), (ad 13, eL 81 (ca 13) ((fo (mc_filf one pin psz (fo (mc_oof pin zer mo) (tpow nn) oop)) (tpow nn) (0, num, out, siz, inp, pla)).2.2.2.2.2))] := hD
          have e_1 : mc_lon (fo (mc_filf one pin psz (fo (mc_oof pin zer mo) (tpow nn) oop)) (tpow nn) (0, num, out, siz, inp, pla)).2.2.2.2.2 (fo (mc_filf one pin psz (fo (mc_oof pin zer mo) (tpow nn) oop)) (tpow nn) (0, num, out, siz, inp, pla)).1 = mc_lon ((fo (mc_filf one pin psz (fo (mc_oof pin zer mo) (tpow nn) oop)) (tpow nn) (0, num, out, siz, inp, pla)).2.2.2.2.2) ((fo (mc_filf one pin psz (fo (mc_oof pin zer mo) (tpow nn) oop)) (tpow nn) (0, num, out, siz, inp, pla)).1) := rfl
          exact W.vret hx hb hr (fun t ht hW => by (try rw [e_1]); exact kw_endv hP hD hK hS [10, 0, 1, 2, 3, 4, 5, 6, 11, 7, 8, 9] rfl (by decide) rfl ht hW.alike) hS.2.2 d_T_fill_118
        · refine lv_iload hx hb d_T_fill_76 (lv_at hl 6 rfl) ?_
          refine lv_bipush (v := 81) hx hb d_T_fill_78 (by decide) ?_
          refine k_ge (a := jv) (b := 81) (tgt := 114) hx hb rfl rfl (by omega) (by omega) d_T_fill_80 (by decide) (fun c_80 => ?_) (fun c_80 => ?_)
          · exfalso; omega
          · refine lv_aload_n hx hb d_T_fill_83 rfl (lv_at hl 0 rfl) ?_
            refine va_get (D := (dC, dI)) (ci := 0) (v := .int (nI ((fo (mc_filf one pin psz (fo (mc_oof pin zer mo) (tpow nn) oop)) jv (0, num, out, siz, inp, pla)).1))) (C := R_T) (T := F_T) (N := 10) hx hb hts (hin_of in_T) hown hK hP 0 rfl rfl 5 (by decide) (hw_of hts mw_110) (fun _ h9 => h9) rfl d_T_fill_84 ?_
            refine lv_bipush (v := 81) hx hb d_T_fill_87 (by decide) ?_
            refine k_ge (a := (fo (mc_filf one pin psz (fo (mc_oof pin zer mo) (tpow nn) oop)) jv (0, num, out, siz, inp, pla)).1) (b := 81) (tgt := 108) hx hb rfl rfl (by omega) (by omega) d_T_fill_89 (by decide) (fun c_89 => ?_) (fun c_89 => ?_)
            · exfalso; omega
            · refine lv_aload_n hx hb d_T_fill_92 rfl (lv_at hl 0 rfl) ?_
              refine lv_iload hx hb d_T_fill_93 (lv_at hl 6 rfl) ?_
              have hPc := hP.sub (ws' := [(ad 2, eT ad (nI ((fo (mc_filf one pin psz (fo (mc_oof pin zer mo) (tpow nn) oop)) jv (0, num, out, siz, inp, pla)).1)) (fo (mc_plf one 3) 2 0) lon), (ad 14, eI 81 (ca 14) (fo (mc_oof pin zer mo) (tpow nn) oop))]) [0, 9] rfl
              have hKc := hK.sub (tys' := [(ca 14, .int)]) [7] rfl
              refine vp_callSi (W.runV (As := [.int (nI jv)]) (rest := []) ⟨hx, hb, hml, hown, hts⟩ (c_isCandidate l dC dI ad ca tP tI (nI ((fo (mc_filf one pin psz (fo (mc_oof pin zer mo) (tpow nn) oop)) jv (0, num, out, siz, inp, pla)).1)) (fo (mc_plf one 3) 2 0) lon (fo (mc_oof pin zer mo) (tpow nn) oop) jv (by omega)) (cwV 1 hts (gd_V mw_227 mw_229 mw_5 mw_42 mw_230) rfl rfl rfl (by decide +kernel) ⟨Nat.le_of_ble_eq_true rfl, Nat.le_of_ble_eq_true rfl⟩) (kr_VX (q0 := 0) (ci := 0) hKc hPc rfl rfl hX hS) rfl rfl hl.1 rfl (lv_room (Nat.le_of_ble_eq_true rfl)) d_T_fill_95 ⟨Nat.zero_le _, Nat.zero_le _⟩) (fun r hq => ?_)
              subst hq
              refine k_beq (b := (mc_isc (fo (mc_oof pin zer mo) (tpow nn) oop) jv)) (tgt := 108) hx hb d_T_fill_98 (by decide) (fun c_98 => ?_) (fun c_98 => ?_)
              · refine lv_iinc (v := nI (jv + 1)) (lv' := [(6, .int (nI (jv + 1))), (0, .ref (ad 2)), (1, .int (nI nn)), (2, .int (nI mo)), (3, .ref (ad 4)), (4, .ref (ad 5)), (5, .int (nI (tpow nn)))]) hx hb d_T_fill_108 hl (k := 6) rfl (k_inc _) (by decide) rfl (fun ls hl => ?_)
                refine lv_goto (tgt := 69) hx hb d_T_fill_111 (by decide) ?_
                refine ihjv _ _ _ (by omega) ?_
                have e_2 : nI ((fo (mc_filf one pin psz (fo (mc_oof pin zer mo) (tpow nn) oop)) (jv + 1) (0, num, out, siz, inp, pla)).1) = nI ((fo (mc_filf one pin psz (fo (mc_oof pin zer mo) (tpow nn) oop)) jv (0, num, out, siz, inp, pla)).1) := by rw [fo_s]; first | rw [mc_filf_t c_98] | rw [mc_filf_f c_98]
                have e_3 : (fo (mc_filf one pin psz (fo (mc_oof pin zer mo) (tpow nn) oop)) (jv + 1) (0, num, out, siz, inp, pla)).2.1 = (fo (mc_filf one pin psz (fo (mc_oof pin zer mo) (tpow nn) oop)) jv (0, num, out, siz, inp, pla)).2.1 := by rw [fo_s]; first | rw [mc_filf_t c_98] | rw [mc_filf_f c_98]
                have e_4 : (fo (mc_filf one pin psz (fo (mc_oof pin zer mo) (tpow nn) oop)) (jv + 1) (0, num, out, siz, inp, pla)).2.2.1 = (fo (mc_filf one pin psz (fo (mc_oof pin zer mo) (tpow nn) oop)) jv (0, num, out, siz, inp, pla)).2.2.1 := by rw [fo_s]; first | rw [mc_filf_t c_98] | rw [mc_filf_f c_98]
                have e_5 : (fo (mc_filf one pin psz (fo (mc_oof pin zer mo) (tpow nn) oop)) (jv + 1) (0, num, out, siz, inp, pla)).2.2.2.1 = (fo (mc_filf one pin psz (fo (mc_oof pin zer mo) (tpow nn) oop)) jv (0, num, out, siz, inp, pla)).2.2.2.1 := by rw [fo_s]; first | rw [mc_filf_t c_98] | rw [mc_filf_f c_98]
                have e_6 : (fo (mc_filf one pin psz (fo (mc_oof pin zer mo) (tpow nn) oop)) (jv + 1) (0, num, out, siz, inp, pla)).2.2.2.2.1 = (fo (mc_filf one pin psz (fo (mc_oof pin zer mo) (tpow nn) oop)) jv (0, num, out, siz, inp, pla)).2.2.2.2.1 := by rw [fo_s]; first | rw [mc_filf_t c_98] | rw [mc_filf_f c_98]
                have e_7 : (fo (mc_filf one pin psz (fo (mc_oof pin zer mo) (tpow nn) oop)) (jv + 1) (0, num, out, siz, inp, pla)).2.2.2.2.2 = (fo (mc_filf one pin psz (fo (mc_oof pin zer mo) (tpow nn) oop)) jv (0, num, out, siz, inp, pla)).2.2.2.2.2 := by rw [fo_s]; first | rw [mc_filf_t c_98] | rw [mc_filf_f c_98]
                exact ⟨by (try rw [e_2]); (try rw [e_3]); (try rw [e_4]); (try rw [e_5]); (try rw [e_6]); (try rw [e_7]); exact lv_sub hl [1, 2, 3, 4, 5, 6, 0] rfl, by (try rw [e_2]); (try rw [e_3]); (try rw [e_4]); (try rw [e_5]); (try rw [e_6]); (try rw [e_7]); exact hP, by (try rw [e_2]); (try rw [e_3]); (try rw [e_4]); (try rw [e_5]); (try rw [e_6]); (try rw [e_7]); exact hD, hS, (by rw [fo_s]; first | (rw [mc_filf_t c_98]; exact Nat.succ_le_succ hle) | (rw [mc_filf_f c_98]; exact Nat.le_succ_of_le hle))⟩
              · refine lv_aload_n hx hb d_T_fill_101 rfl (lv_at hl 0 rfl) ?_
                refine lv_iload hx hb d_T_fill_102 (lv_at hl 6 rfl) ?_
                refine lv_aload_n hx hb d_T_fill_104 rfl (lv_at hl 3 rfl) ?_
                have hPc := hP.sub (ws' := [(ad 2, eT ad (nI ((fo (mc_filf one pin psz (fo (mc_oof pin zer mo) (tpow nn) oop)) jv (0, num, out, siz, inp, pla)).1)) (fo (mc_plf one 3) 2 0) lon), (ad 3, eP ad), (ad 4, eI 2 (ca 4) one), (ad 9, eI 81 (ca 9) ((fo (mc_filf one pin psz (fo (mc_oof pin zer mo) (tpow nn) oop)) jv (0, num, out, siz, inp, pla)).2.1)), (ad 10, eI 81 (ca 10) ((fo (mc_filf one pin psz (fo (mc_oof pin zer mo) (tpow nn) oop)) jv (0, num, out, siz, inp, pla)).2.2.1)), (ad 11, eI 81 (ca 11) ((fo (mc_filf one pin psz (fo (mc_oof pin zer mo) (tpow nn) oop)) jv (0, num, out, siz, inp, pla)).2.2.2.1)), (ad 12, eI 81 (ca 12) ((fo (mc_filf one pin psz (fo (mc_oof pin zer mo) (tpow nn) oop)) jv (0, num, out, siz, inp, pla)).2.2.2.2.1)), (ad 13, eL 81 (ca 13) ((fo (mc_filf one pin psz (fo (mc_oof pin zer mo) (tpow nn) oop)) jv (0, num, out, siz, inp, pla)).2.2.2.2.2)), (ad 14, eI 81 (ca 14) (fo (mc_oof pin zer mo) (tpow nn) oop)), (ad 15, eI 81 (ca 15) pin), (ad 16, eI 81 (ca 16) psz)]) [0, 1, 2, 4, 5, 6, 7, 8, 9, 10, 11] rfl
                have hDc := hD.sub (ws' := [(ad 2, eT ad (nI ((fo (mc_filf one pin psz (fo (mc_oof pin zer mo) (tpow nn) oop)) jv (0, num, out, siz, inp, pla)).1)) (fo (mc_plf one 3) 2 0) lon), (ad 3, eP ad), (ad 4, eI 2 (ca 4) one), (ad 9, eI 81 (ca 9) ((fo (mc_filf one pin psz (fo (mc_oof pin zer mo) (tpow nn) oop)) jv (0, num, out, siz, inp, pla)).2.1)), (ad 10, eI 81 (ca 10) ((fo (mc_filf one pin psz (fo (mc_oof pin zer mo) (tpow nn) oop)) jv (0, num, out, siz, inp, pla)).2.2.1)), (ad 11, eI 81 (ca 11) ((fo (mc_filf one pin psz (fo (mc_oof pin zer mo) (tpow nn) oop)) jv (0, num, out, siz, inp, pla)).2.2.2.1)), (ad 12, eI 81 (ca 12) ((fo (mc_filf one pin psz (fo (mc_oof pin zer mo) (tpow nn) oop)) jv (0, num, out, siz, inp, pla)).2.2.2.2.1)), (ad 13, eL 81 (ca 13) ((fo (mc_filf one pin psz (fo (mc_oof pin zer mo) (tpow nn) oop)) jv (0, num, out, siz, inp, pla)).2.2.2.2.2)), (ad 14, eI 81 (ca 14) (fo (mc_oof pin zer mo) (tpow nn) oop)), (ad 15, eI 81 (ca 15) pin), (ad 16, eI 81 (ca 16) psz)]) [0, 1, 2, 4, 5, 6, 7, 8, 9, 10, 11] (by decide) rfl
                have hKc := hK.sub (tys' := [(ca 4, .int), (ca 9, .int), (ca 10, .int), (ca 11, .int), (ca 12, .int), (ca 13, .long), (ca 14, .int), (ca 15, .int), (ca 16, .int)]) [0, 2, 3, 4, 5, 6, 7, 8, 9] rfl
                refine kw_callv (wr := [(ad 5, eI 2 (ca 5) zer)]) (wf := [(ad 2, eT ad (nI (((fo (mc_filf one pin psz (fo (mc_oof pin zer mo) (tpow nn) oop)) jv (0, num, out, siz, inp, pla)).1) + 1)) (fo (mc_plf one 3) 2 0) lon), (ad 3, eP ad), (ad 4, eI 2 (ca 4) one), (ad 9, eI 81 (ca 9) (upd ((fo (mc_filf one pin psz (fo (mc_oof pin zer mo) (tpow nn) oop)) jv (0, num, out, siz, inp, pla)).2.1) ((fo (mc_filf one pin psz (fo (mc_oof pin zer mo) (tpow nn) oop)) jv (0, num, out, siz, inp, pla)).1) (nI jv))), (ad 10, eI 81 (ca 10) (upd ((fo (mc_filf one pin psz (fo (mc_oof pin zer mo) (tpow nn) oop)) jv (0, num, out, siz, inp, pla)).2.2.1) ((fo (mc_filf one pin psz (fo (mc_oof pin zer mo) (tpow nn) oop)) jv (0, num, out, siz, inp, pla)).1) ((fo (mc_oof pin zer mo) (tpow nn) oop) jv))), (ad 11, eI 81 (ca 11) (upd ((fo (mc_filf one pin psz (fo (mc_oof pin zer mo) (tpow nn) oop)) jv (0, num, out, siz, inp, pla)).2.2.2.1) ((fo (mc_filf one pin psz (fo (mc_oof pin zer mo) (tpow nn) oop)) jv (0, num, out, siz, inp, pla)).1) (psz jv))), (ad 12, eI 81 (ca 12) (upd ((fo (mc_filf one pin psz (fo (mc_oof pin zer mo) (tpow nn) oop)) jv (0, num, out, siz, inp, pla)).2.2.2.2.1) ((fo (mc_filf one pin psz (fo (mc_oof pin zer mo) (tpow nn) oop)) jv (0, num, out, siz, inp, pla)).1) (pin jv))), (ad 13, eL 81 (ca 13) (vp_updL ((fo (mc_filf one pin psz (fo (mc_oof pin zer mo) (tpow nn) oop)) jv (0, num, out, siz, inp, pla)).2.2.2.2.2) ((fo (mc_filf one pin psz (fo (mc_oof pin zer mo) (tpow nn) oop)) jv (0, num, out, siz, inp, pla)).1) (mc_pla one (pin jv) ((fo (mc_oof pin zer mo) (tpow nn) oop) jv)))), (ad 14, eI 81 (ca 14) (fo (mc_oof pin zer mo) (tpow nn) oop)), (ad 15, eI 81 (ca 15) pin), (ad 16, eI 81 (ca 16) psz)]) (va_runV (As := [.int (nI jv), .ref (ad 4)]) (rest := []) ⟨hx, hb, hml, hown, hts⟩ (c_append l dC dI ad ca ((fo (mc_filf one pin psz (fo (mc_oof pin zer mo) (tpow nn) oop)) jv (0, num, out, siz, inp, pla)).1) (fo (mc_plf one 3) 2 0) lon one ((fo (mc_filf one pin psz (fo (mc_oof pin zer mo) (tpow nn) oop)) jv (0, num, out, siz, inp, pla)).2.1) ((fo (mc_filf one pin psz (fo (mc_oof pin zer mo) (tpow nn) oop)) jv (0, num, out, siz, inp, pla)).2.2.1) ((fo (mc_filf one pin psz (fo (mc_oof pin zer mo) (tpow nn) oop)) jv (0, num, out, siz, inp, pla)).2.2.2.1) ((fo (mc_filf one pin psz (fo (mc_oof pin zer mo) (tpow nn) oop)) jv (0, num, out, siz, inp, pla)).2.2.2.2.1) ((fo (mc_filf one pin psz (fo (mc_oof pin zer mo) (tpow nn) oop)) jv (0, num, out, siz, inp, pla)).2.2.2.2.2) (fo (mc_oof pin zer mo) (tpow nn) oop) pin psz jv (by omega) (by omega) _) (cwV 2 hts (gd_V mw_234 mw_236 mw_6 mw_42 mw_237) rfl rfl rfl (by decide +kernel) ⟨Nat.le_of_ble_eq_true rfl, Nat.le_of_ble_eq_true rfl⟩) (kw_V (q0 := 0) (ci := 0) hKc hPc hDc rfl rfl) rfl rfl hl.1 rfl (lv_room (Nat.le_of_ble_eq_true rfl)) d_T_fill_105 ⟨Nat.zero_le _, Nat.zero_le _⟩) hP hD hS hA [0, 1, 2, 4, 5, 6, 7, 8, 9, 10, 11] [3] rfl rfl (by decide) (by decide) (fun H locs hP hD hS => ?_)
                have hP : va_P (dC, dI) vC [(ad 5, eI 2 (ca 5) zer), (ad 2, eT ad (nI (((fo (mc_filf one pin psz (fo (mc_oof pin zer mo) (tpow nn) oop)) jv (0, num, out, siz, inp, pla)).1) + 1)) (fo (mc_plf one 3) 2 0) lon), (ad 3, eP ad), (ad 4, eI 2 (ca 4) one), (ad 9, eI 81 (ca 9) (upd ((fo (mc_filf one pin psz (fo (mc_oof pin zer mo) (tpow nn) oop)) jv (0, num, out, siz, inp, pla)).2.1) ((fo (mc_filf one pin psz (fo (mc_oof pin zer mo) (tpow nn) oop)) jv (0, num, out, siz, inp, pla)).1) (nI jv))), (ad 10, eI 81 (ca 10) (upd ((fo (mc_filf one pin psz (fo (mc_oof pin zer mo) (tpow nn) oop)) jv (0, num, out, siz, inp, pla)).2.2.1) ((fo (mc_filf one pin psz (fo (mc_oof pin zer mo) (tpow nn) oop)) jv (0, num, out, siz, inp, pla)).1) ((fo (mc_oof pin zer mo) (tpow nn) oop) jv))), (ad 11, eI 81 (ca 11) (upd ((fo (mc_filf one pin psz (fo (mc_oof pin zer mo) (tpow nn) oop)) jv (0, num, out, siz, inp, pla)).2.2.2.1) ((fo (mc_filf one pin psz (fo (mc_oof pin zer mo) (tpow nn) oop)) jv (0, num, out, siz, inp, pla)).1) (psz jv))), (ad 12, eI 81 (ca 12) (upd ((fo (mc_filf one pin psz (fo (mc_oof pin zer mo) (tpow nn) oop)) jv (0, num, out, siz, inp, pla)).2.2.2.2.1) ((fo (mc_filf one pin psz (fo (mc_oof pin zer mo) (tpow nn) oop)) jv (0, num, out, siz, inp, pla)).1) (pin jv))), (ad 13, eL 81 (ca 13) (vp_updL ((fo (mc_filf one pin psz (fo (mc_oof pin zer mo) (tpow nn) oop)) jv (0, num, out, siz, inp, pla)).2.2.2.2.2) ((fo (mc_filf one pin psz (fo (mc_oof pin zer mo) (tpow nn) oop)) jv (0, num, out, siz, inp, pla)).1) (mc_pla one (pin jv) ((fo (mc_oof pin zer mo) (tpow nn) oop) jv)))), (ad 14, eI 81 (ca 14) (fo (mc_oof pin zer mo) (tpow nn) oop)), (ad 15, eI 81 (ca 15) pin), (ad 16, eI 81 (ca 16) psz)] H := hP
                have hD : va_D A [(ad 5, eI 2 (ca 5) zer), (ad 2, eT ad (nI (((fo (mc_filf one pin psz (fo (mc_oof pin zer mo) (tpow nn) oop)) jv (0, num, out, siz, inp, pla)).1) + 1)) (fo (mc_plf one 3) 2 0) lon), (ad 3, eP ad), (ad 4, eI 2 (ca 4) one), (ad 9, eI 81 (ca 9) (upd ((fo (mc_filf one pin psz (fo (mc_oof pin zer mo) (tpow nn) oop)) jv (0, num, out, siz, inp, pla)).2.1) ((fo (mc_filf one pin psz (fo (mc_oof pin zer mo) (tpow nn) oop)) jv (0, num, out, siz, inp, pla)).1) (nI jv))), (ad 10, eI 81 (ca 10) (upd ((fo (mc_filf one pin psz (fo (mc_oof pin zer mo) (tpow nn) oop)) jv (0, num, out, siz, inp, pla)).2.2.1) ((fo (mc_filf one pin psz (fo (mc_oof pin zer mo) (tpow nn) oop)) jv (0, num, out, siz, inp, pla)).1) ((fo (mc_oof pin zer mo) (tpow nn) oop) jv))), (ad 11, eI 81 (ca 11) (upd ((fo (mc_filf one pin psz (fo (mc_oof pin zer mo) (tpow nn) oop)) jv (0, num, out, siz, inp, pla)).2.2.2.1) ((fo (mc_filf one pin psz (fo (mc_oof pin zer mo) (tpow nn) oop)) jv (0, num, out, siz, inp, pla)).1) (psz jv))), (ad 12, eI 81 (ca 12) (upd ((fo (mc_filf one pin psz (fo (mc_oof pin zer mo) (tpow nn) oop)) jv (0, num, out, siz, inp, pla)).2.2.2.2.1) ((fo (mc_filf one pin psz (fo (mc_oof pin zer mo) (tpow nn) oop)) jv (0, num, out, siz, inp, pla)).1) (pin jv))), (ad 13, eL 81 (ca 13) (vp_updL ((fo (mc_filf one pin psz (fo (mc_oof pin zer mo) (tpow nn) oop)) jv (0, num, out, siz, inp, pla)).2.2.2.2.2) ((fo (mc_filf one pin psz (fo (mc_oof pin zer mo) (tpow nn) oop)) jv (0, num, out, siz, inp, pla)).1) (mc_pla one (pin jv) ((fo (mc_oof pin zer mo) (tpow nn) oop) jv)))), (ad 14, eI 81 (ca 14) (fo (mc_oof pin zer mo) (tpow nn) oop)), (ad 15, eI 81 (ca 15) pin), (ad 16, eI 81 (ca 16) psz)] := hD
                refine lv_iinc (v := nI (jv + 1)) (lv' := [(6, .int (nI (jv + 1))), (0, .ref (ad 2)), (1, .int (nI nn)), (2, .int (nI mo)), (3, .ref (ad 4)), (4, .ref (ad 5)), (5, .int (nI (tpow nn)))]) hx hb d_T_fill_108 hl (k := 6) rfl (k_inc _) (by decide) rfl (fun ls hl => ?_)
                refine lv_goto (tgt := 69) hx hb d_T_fill_111 (by decide) ?_
                refine ihjv _ _ _ (by omega) ?_
                have e_8 : nI ((fo (mc_filf one pin psz (fo (mc_oof pin zer mo) (tpow nn) oop)) (jv + 1) (0, num, out, siz, inp, pla)).1) = nI (((fo (mc_filf one pin psz (fo (mc_oof pin zer mo) (tpow nn) oop)) jv (0, num, out, siz, inp, pla)).1) + 1) := by rw [fo_s]; first | rw [mc_filf_t c_98] | rw [mc_filf_f c_98]
                have e_9 : (fo (mc_filf one pin psz (fo (mc_oof pin zer mo) (tpow nn) oop)) (jv + 1) (0, num, out, siz, inp, pla)).2.1 = upd ((fo (mc_filf one pin psz (fo (mc_oof pin zer mo) (tpow nn) oop)) jv (0, num, out, siz, inp, pla)).2.1) ((fo (mc_filf one pin psz (fo (mc_oof pin zer mo) (tpow nn) oop)) jv (0, num, out, siz, inp, pla)).1) (nI jv) := by rw [fo_s]; first | rw [mc_filf_t c_98] | rw [mc_filf_f c_98]
                have e_10 : (fo (mc_filf one pin psz (fo (mc_oof pin zer mo) (tpow nn) oop)) (jv + 1) (0, num, out, siz, inp, pla)).2.2.1 = upd ((fo (mc_filf one pin psz (fo (mc_oof pin zer mo) (tpow nn) oop)) jv (0, num, out, siz, inp, pla)).2.2.1) ((fo (mc_filf one pin psz (fo (mc_oof pin zer mo) (tpow nn) oop)) jv (0, num, out, siz, inp, pla)).1) ((fo (mc_oof pin zer mo) (tpow nn) oop) jv) := by rw [fo_s]; first | rw [mc_filf_t c_98] | rw [mc_filf_f c_98]
                have e_11 : (fo (mc_filf one pin psz (fo (mc_oof pin zer mo) (tpow nn) oop)) (jv + 1) (0, num, out, siz, inp, pla)).2.2.2.1 = upd ((fo (mc_filf one pin psz (fo (mc_oof pin zer mo) (tpow nn) oop)) jv (0, num, out, siz, inp, pla)).2.2.2.1) ((fo (mc_filf one pin psz (fo (mc_oof pin zer mo) (tpow nn) oop)) jv (0, num, out, siz, inp, pla)).1) (psz jv) := by rw [fo_s]; first | rw [mc_filf_t c_98] | rw [mc_filf_f c_98]
                have e_12 : (fo (mc_filf one pin psz (fo (mc_oof pin zer mo) (tpow nn) oop)) (jv + 1) (0, num, out, siz, inp, pla)).2.2.2.2.1 = upd ((fo (mc_filf one pin psz (fo (mc_oof pin zer mo) (tpow nn) oop)) jv (0, num, out, siz, inp, pla)).2.2.2.2.1) ((fo (mc_filf one pin psz (fo (mc_oof pin zer mo) (tpow nn) oop)) jv (0, num, out, siz, inp, pla)).1) (pin jv) := by rw [fo_s]; first | rw [mc_filf_t c_98] | rw [mc_filf_f c_98]
                have e_13 : (fo (mc_filf one pin psz (fo (mc_oof pin zer mo) (tpow nn) oop)) (jv + 1) (0, num, out, siz, inp, pla)).2.2.2.2.2 = vp_updL ((fo (mc_filf one pin psz (fo (mc_oof pin zer mo) (tpow nn) oop)) jv (0, num, out, siz, inp, pla)).2.2.2.2.2) ((fo (mc_filf one pin psz (fo (mc_oof pin zer mo) (tpow nn) oop)) jv (0, num, out, siz, inp, pla)).1) (mc_pla one (pin jv) ((fo (mc_oof pin zer mo) (tpow nn) oop) jv)) := by rw [fo_s]; first | rw [mc_filf_t c_98] | rw [mc_filf_f c_98]
                exact ⟨by (try rw [e_8]); (try rw [e_9]); (try rw [e_10]); (try rw [e_11]); (try rw [e_12]); (try rw [e_13]); exact lv_sub hl [1, 2, 3, 4, 5, 6, 0] rfl, by (try rw [e_8]); (try rw [e_9]); (try rw [e_10]); (try rw [e_11]); (try rw [e_12]); (try rw [e_13]); exact hP.sub [1, 2, 3, 0, 4, 5, 6, 7, 8, 9, 10, 11] rfl, by (try rw [e_8]); (try rw [e_9]); (try rw [e_10]); (try rw [e_11]); (try rw [e_12]); (try rw [e_13]); exact hD.sub [1, 2, 3, 0, 4, 5, 6, 7, 8, 9, 10, 11] (by decide) rfl, hS, (by rw [fo_s]; first | (rw [mc_filf_t c_98]; exact Nat.succ_le_succ hle) | (rw [mc_filf_f c_98]; exact Nat.le_succ_of_le hle))⟩
      · have hdone : True := trivial
        have e_14 : nI 0 = 0 := rfl
        have e_15 : nI ((fo (mc_filf one pin psz (fo (mc_oof pin zer mo) (tpow nn) oop)) 0 (0, num, out, siz, inp, pla)).1) = 0 := rfl
        have e_16 : (fo (mc_filf one pin psz (fo (mc_oof pin zer mo) (tpow nn) oop)) 0 (0, num, out, siz, inp, pla)).2.1 = num := rfl
        have e_17 : (fo (mc_filf one pin psz (fo (mc_oof pin zer mo) (tpow nn) oop)) 0 (0, num, out, siz, inp, pla)).2.2.1 = out := rfl
        have e_18 : (fo (mc_filf one pin psz (fo (mc_oof pin zer mo) (tpow nn) oop)) 0 (0, num, out, siz, inp, pla)).2.2.2.1 = siz := rfl
        have e_19 : (fo (mc_filf one pin psz (fo (mc_oof pin zer mo) (tpow nn) oop)) 0 (0, num, out, siz, inp, pla)).2.2.2.2.1 = inp := rfl
        have e_20 : (fo (mc_filf one pin psz (fo (mc_oof pin zer mo) (tpow nn) oop)) 0 (0, num, out, siz, inp, pla)).2.2.2.2.2 = pla := rfl
        exact ⟨by (try rw [e_14]); (try rw [e_15]); (try rw [e_16]); (try rw [e_17]); (try rw [e_18]); (try rw [e_19]); (try rw [e_20]); exact lv_sub hl [1, 2, 3, 4, 5, 6, 0] rfl, by (try rw [e_14]); (try rw [e_15]); (try rw [e_16]); (try rw [e_17]); (try rw [e_18]); (try rw [e_19]); (try rw [e_20]); exact hP, by (try rw [e_14]); (try rw [e_15]); (try rw [e_16]); (try rw [e_17]); (try rw [e_18]); (try rw [e_19]); (try rw [e_20]); exact hD, hS, Nat.le_refl 0⟩
    · refine lv_iload hx hb d_T_fill_16 (lv_at hl 6 rfl) ?_
      refine lv_bipush (v := 81) hx hb d_T_fill_18 (by decide) ?_
      refine k_ge (a := iv) (b := 81) (tgt := 52) hx hb rfl rfl (by omega) (by omega) d_T_fill_20 (by decide) (fun c_20 => ?_) (fun c_20 => ?_)
      · exfalso; omega
      · refine lv_aload_n hx hb d_T_fill_23 rfl (lv_at hl 0 rfl) ?_
        refine va_get (D := (dC, dI)) (ci := 0) (v := .ref (ad 14)) (C := R_T) (T := F_T) (N := 10) hx hb hts (hin_of in_T) hown hK hP 0 rfl rfl 9 (by decide) (hw_of hts mw_116) (fun _ h9 => h9) rfl d_T_fill_24 ?_
        refine lv_iload hx hb d_T_fill_27 (lv_at hl 6 rfl) ?_
        refine lv_aload_n hx hb d_T_fill_29 rfl (lv_at hl 0 rfl) ?_
        refine va_get (D := (dC, dI)) (ci := 0) (v := .ref (ad 3)) (C := R_T) (T := F_T) (N := 10) hx hb hts (hin_of in_T) hown hK hP 0 rfl rfl 8 (by decide) (hw_of hts mw_115) (fun _ h9 => h9) rfl d_T_fill_30 ?_
        refine va_get (D := (dC, dI)) (ci := 1) (v := .ref (ad 15)) (C := R_P) (T := F_P) (N := 2) hx hb hts (hin_of in_P) hown hK hP 1 rfl rfl 0 (by decide) (hw_of hts mw_86) (fun _ h9 => h9) rfl d_T_fill_33 ?_
        refine lv_iload hx hb d_T_fill_36 (lv_at hl 6 rfl) ?_
        refine k_iald (k := iv) hx hb hK hP 10 8 rfl rfl rfl (by omega) (by decide) d_T_fill_38 ?_
        refine lv_iload_n hx hb d_T_fill_39 rfl (lv_at hl 2 rfl) ?_
        refine lv_aload hx hb d_T_fill_40 (lv_at hl 4 rfl) ?_
        have hPc := hP.sub (ws' := [(ad 5, eI 2 (ca 5) zer)]) [3] rfl
        have hKc := hK.sub (tys' := [(ca 5, .int)]) [1] rfl
        refine vp_callSi (W.runS (As := [.int (pin iv), .int (nI mo), .ref (ad 5)]) (rest := [.int (nI iv), .ref (ad 14)]) ⟨hx, hb, hml, hown, hts⟩ (c_outputsOf l dC dI ad ca zer (pin iv) mo (by omega)) (va_cwS 3 hts (gd_S mw_221 mw_222 mw_42 mw_223) rfl rfl rfl (by decide +kernel) ⟨Nat.le_of_ble_eq_true rfl, Nat.le_of_ble_eq_true rfl⟩) (kr_S hKc hPc) rfl rfl hl.1 rfl (lv_room (Nat.le_of_ble_eq_true rfl)) d_T_fill_42 ⟨Nat.zero_le _, Nat.zero_le _⟩) (fun r hq => ?_)
        subst hq
        refine k_iast (k := iv) hx hb hK hP hD hS 9 7 rfl rfl rfl (by omega) (by decide) d_T_fill_45 (fun H locs hP hD hS => ?_)
        have hP : va_P (dC, dI) vC [(ad 2, eT ad c0 due lon), (ad 3, eP ad), (ad 4, eI 2 (ca 4) one), (ad 5, eI 2 (ca 5) zer), (ad 9, eI 81 (ca 9) num), (ad 10, eI 81 (ca 10) out), (ad 11, eI 81 (ca 11) siz), (ad 12, eI 81 (ca 12) inp), (ad 13, eL 81 (ca 13) pla), (ad 14, eI 81 (ca 14) (upd (fo (mc_oof pin zer mo) iv oop) iv (fo (mc_outf (pin iv) zer) mo 0))), (ad 15, eI 81 (ca 15) pin), (ad 16, eI 81 (ca 16) psz)] H := hP
        have hD : va_D A [(ad 2, eT ad c0 due lon), (ad 3, eP ad), (ad 4, eI 2 (ca 4) one), (ad 5, eI 2 (ca 5) zer), (ad 9, eI 81 (ca 9) num), (ad 10, eI 81 (ca 10) out), (ad 11, eI 81 (ca 11) siz), (ad 12, eI 81 (ca 12) inp), (ad 13, eL 81 (ca 13) pla), (ad 14, eI 81 (ca 14) (upd (fo (mc_oof pin zer mo) iv oop) iv (fo (mc_outf (pin iv) zer) mo 0))), (ad 15, eI 81 (ca 15) pin), (ad 16, eI 81 (ca 16) psz)] := hD
        refine lv_iinc (v := nI (iv + 1)) (lv' := [(6, .int (nI (iv + 1))), (0, .ref (ad 2)), (1, .int (nI nn)), (2, .int (nI mo)), (3, .ref (ad 4)), (4, .ref (ad 5)), (5, .int (nI (tpow nn)))]) hx hb d_T_fill_46 hl (k := 6) rfl (k_inc _) (by decide) rfl (fun ls hl => ?_)
        refine lv_goto (tgt := 9) hx hb d_T_fill_49 (by decide) ?_
        refine ihiv _ _ _ (by omega) ?_
        have e_21 : (fo (mc_oof pin zer mo) (iv + 1) oop) = upd (fo (mc_oof pin zer mo) iv oop) iv (fo (mc_outf (pin iv) zer) mo 0) := rfl
        exact ⟨by (try rw [e_21]); exact lv_sub hl [1, 2, 3, 4, 5, 6, 0] rfl, by (try rw [e_21]); exact hP, by (try rw [e_21]); exact hD, hS, trivial⟩
  · have hdone : True := trivial
    have e_22 : nI 0 = 0 := rfl
    have e_23 : (fo (mc_oof pin zer mo) 0 oop) = oop := rfl
    exact ⟨by (try rw [e_22]); (try rw [e_23]); exact lv_sub hl [2, 3, 4, 5, 6, 1, 0] rfl, by (try rw [e_22]); (try rw [e_23]); exact hP, by (try rw [e_22]); (try rw [e_23]); exact hD, hS, trivial⟩
end
section
set_option maxHeartbeats 4000000 in
set_option maxRecDepth 100000 in
theorem c_extend_0 (l : Launch) (dC : Nat → ClassId) (dI : Nat → Nat → Nat) (ad : Nat → Nat) (ca : Nat → ClassId) (pk : Int32) (pp : Int32) (bw : Int32) (bs : Int64) (cn : Nat) (hc : cn ≤ 63) (due : Int64) (lon : Int64) (wei : Nat → Int32) (ser : Nat → Int64) (pla : Nat → Int64) (dp : Nat) (op : Int64) (fr : Int64) (wt : Int32) (tk : Int64) (hdp : dp = 32) (sz : Nat) : Met l y_S_extend w_S_extend (rmE 0) (kw_P [.ref (ad 1), .int (nI dp), .long op, .long fr, .int wt, .long tk] sz (dC, dI) vC [(ad 1, eS ad pk pp bw bs), (ad 2, eT ad (nI cn) due lon), (ad 7, eI 81 (ca 7) wei), (ad 8, eL 32 (ca 8) ser), (ad 13, eL 81 (ca 13) pla)] [(ca 7, .int), (ca 8, .long), (ca 13, .long)]) (kw_Qv (dC, dI) vC [(ca 7, .int), (ca 8, .long), (ca 13, .long)] (va_A [(ad 1, eS ad pk pp bw bs), (ad 2, eT ad (nI cn) due lon), (ad 7, eI 81 (ca 7) wei), (ad 8, eL 32 (ca 8) ser), (ad 13, eL 81 (ca 13) pla)] sz) [(ad 1, eS ad pk pp ((m_ext m_pop cn pla wei ser 0 op fr wt tk (bw, bs)).1) ((m_ext m_pop cn pla wei ser 0 op fr wt tk (bw, bs)).2)), (ad 2, eT ad (nI cn) due lon), (ad 7, eI 81 (ca 7) wei), (ad 8, eL 32 (ca 8) ser), (ad 13, eL 81 (ca 13) pla)]) 0 0 (va_A [(ad 1, eS ad pk pp bw bs), (ad 2, eT ad (nI cn) due lon), (ad 7, eI 81 (ca 7) wei), (ad 8, eL 32 (ca 8) ser), (ad 13, eL 81 (ca 13) pla)] sz) := by
  refine Met.ofW (cc := b_S_extend) (maxL := 16) (ret := none) (by decide) rfl ?_
  intro p e s m args below meth c s₁ B hml hv
  obtain ⟨rfl, hsz, hP, hK, hD0⟩ := hv
  have hx := B.exec
  have hb := B.bytes
  have hr := B.returns
  have hts := atoms_spec (ws := w_S_extend) B.pre
  have hlocks := B.notSynchronized
  have hown : s.vm.findClass R_S = some m.cls := findClass_of_methodNamed B.named
  subst hsz
  have hD := hD0.self (sz := s.heap.size)
  generalize hAe : va_A [(ad 1, eS ad pk pp bw bs), (ad 2, eT ad (nI cn) due lon), (ad 7, eI 81 (ca 7) wei), (ad 8, eL 32 (ca 8) ser), (ad 13, eL 81 (ca 13) pla)] s.heap.size = A at hD ⊢
  have hA : ∀ q : Nat, s.heap.size ≤ q → A q := fun q h => by rw [← hAe]; exact Or.inr h
  have hS : va_S A s.heap s.heap [] := va_S.rf
  have hP : va_P (dC, dI) vC [(ad 1, eS ad pk pp bw bs), (ad 2, eT ad (nI cn) due lon), (ad 7, eI 81 (ca 7) wei), (ad 8, eL 32 (ca 8) ser), (ad 13, eL 81 (ca 13) pla)] s.heap := hP
  have hl := lv_entry ([.ref (ad 1), .int (nI dp), .long op, .long fr, .int wt, .long tk]) (n := 16) (Nat.le_of_ble_eq_true rfl)
  rw [lg_entry_eq]
  generalize (lg_sl ([.ref (ad 1), .int (nI dp), .long op, .long fr, .int wt, .long tk]) ++ List.replicate (16 - (lg_sl ([.ref (ad 1), .int (nI dp), .long op, .long fr, .int wt, .long tk])).length) Slot.unset).toArray = ls at hl ⊢
  have hl : lv_has ls 16 [(0, .ref (ad 1)), (1, .int (nI dp)), (2, .long op), (4, .long fr), (6, .int wt), (7, .long tk)] := hl
  refine lv_lload_n hx hb d_S_extend_0 rfl (lv_at hl 2 rfl) ?_
  refine lv_lconst (v := 0) hx hb d_S_extend_1 rfl ?_
  refine k_lne (tgt := 15) hx hb d_S_extend_2 d_S_extend_3 (by decide) (fun c_2 => ?_) (fun c_2 => ?_)
  · refine lv_iload_n hx hb d_S_extend_15 rfl (lv_at hl 1 rfl) ?_
    refine lv_bipush (v := 32) hx hb d_S_extend_16 (by decide) ?_
    refine k_lt (a := dp) (b := 32) (tgt := 22) hx hb rfl rfl (by omega) (by omega) d_S_extend_18 (by decide) (fun c_18 => ?_) (fun c_18 => ?_)
    · exfalso; omega
    · have e_1 : (m_ext m_pop cn pla wei ser 0 op fr wt tk (bw, bs)).1 = bw := by simp [m_ext, c_2, c_18]
      have e_2 : (m_ext m_pop cn pla wei ser 0 op fr wt tk (bw, bs)).2 = bs := by simp [m_ext, c_2, c_18]
      exact W.vret hx hb hr (fun t ht hW => by (try rw [e_1]); (try rw [e_2]); exact kw_endv hP hD hK hS [0, 1, 2, 3, 4] rfl (by decide) rfl ht hW.alike) hS.2.2 d_S_extend_21
  · refine lv_aload_n hx hb d_S_extend_6 rfl (lv_at hl 0 rfl) ?_
    refine lv_iload hx hb d_S_extend_7 (lv_at hl 4 rfl) ?_
    refine lv_lload hx hb d_S_extend_9 (lv_at hl 5 rfl) ?_
    have hPc := hP.sub (ws' := [(ad 1, eS ad pk pp bw bs)]) [0] rfl
    have hDc := hD.sub (ws' := [(ad 1, eS ad pk pp bw bs)]) [0] (by decide) rfl
    have hKc := hK.sub (tys' := []) [] rfl
    refine kw_callv (wr := [(ad 2, eT ad (nI cn) due lon), (ad 7, eI 81 (ca 7) wei), (ad 8, eL 32 (ca 8) ser), (ad 13, eL 81 (ca 13) pla)]) (wf := [(ad 1, eS ad pk pp ((m_keep wt tk (bw, bs)).1) ((m_keep wt tk (bw, bs)).2))]) (va_runV (As := [.int wt, .long tk]) (rest := []) ⟨hx, hb, hml, hown, hts⟩ (c_keepIfBetter l dC dI ad ca pk pp bw bs wt tk _) (cwV 2 hts (gd_V mw_264 mw_266 mw_11 mw_41 mw_267) rfl rfl rfl (by decide +kernel) ⟨Nat.le_of_ble_eq_true rfl, Nat.le_of_ble_eq_true rfl⟩) (kw_V (q0 := 0) (ci := 2) hKc hPc hDc rfl rfl) rfl rfl hl.1 rfl (lv_room (Nat.le_of_ble_eq_true rfl)) d_S_extend_11 ⟨Nat.zero_le _, Nat.zero_le _⟩) hP hD hS hA [0] [1, 2, 3, 4] rfl rfl (by decide) (by decide) (fun H locs hP hD hS => ?_)
    have hP : va_P (dC, dI) vC [(ad 2, eT ad (nI cn) due lon), (ad 7, eI 81 (ca 7) wei), (ad 8, eL 32 (ca 8) ser), (ad 13, eL 81 (ca 13) pla), (ad 1, eS ad pk pp ((m_keep wt tk (bw, bs)).1) ((m_keep wt tk (bw, bs)).2))] H := hP
    have hD : va_D A [(ad 2, eT ad (nI cn) due lon), (ad 7, eI 81 (ca 7) wei), (ad 8, eL 32 (ca 8) ser), (ad 13, eL 81 (ca 13) pla), (ad 1, eS ad pk pp ((m_keep wt tk (bw, bs)).1) ((m_keep wt tk (bw, bs)).2))] := hD
    have e_3 : (m_ext m_pop cn pla wei ser 0 op fr wt tk (bw, bs)).1 = (m_keep wt tk (bw, bs)).1 := by simp [m_ext, c_2]
    have e_4 : (m_ext m_pop cn pla wei ser 0 op fr wt tk (bw, bs)).2 = (m_keep wt tk (bw, bs)).2 := by simp [m_ext, c_2]
    exact W.vret hx hb hr (fun t ht hW => by (try rw [e_3]); (try rw [e_4]); exact kw_endv hP hD hK hS [4, 0, 1, 2, 3] rfl (by decide) rfl ht hW.alike) hS.2.2 d_S_extend_14
end
section
set_option maxHeartbeats 4000000 in
set_option maxRecDepth 100000 in
theorem c_extend_s (l : Launch) (dC : Nat → ClassId) (dI : Nat → Nat → Nat) (ad : Nat → Nat) (ca : Nat → ClassId) (pk : Int32) (pp : Int32) (bw : Int32) (bs : Int64) (cn : Nat) (hc : cn ≤ 63) (due : Int64) (lon : Int64) (wei : Nat → Int32) (ser : Nat → Int64) (pla : Nat → Int64) (dp : Nat) (op : Int64) (fr : Int64) (wt : Int32) (tk : Int64) (d : Nat) (hdp : dp + (d + 1) = 32) (ih : ∀ (pk pp bw : Int32) (bs : Int64) (cn : Nat) (hc : cn ≤ 63) (due lon : Int64) (wei : Nat → Int32) (ser pla : Nat → Int64) (dp : Nat) (op fr : Int64) (wt : Int32) (tk : Int64) (sz : Nat), dp + d = 32 → Met l y_S_extend w_S_extend (rmE d) (kw_P [.ref (ad 1), .int (nI dp), .long op, .long fr, .int wt, .long tk] sz (dC, dI) vC [(ad 1, eS ad pk pp bw bs), (ad 2, eT ad (nI cn) due lon), (ad 7, eI 81 (ca 7) wei), (ad 8, eL 32 (ca 8) ser), (ad 13, eL 81 (ca 13) pla)] [(ca 7, .int), (ca 8, .long), (ca 13, .long)]) (kw_Qv (dC, dI) vC [(ca 7, .int), (ca 8, .long), (ca 13, .long)] (va_A [(ad 1, eS ad pk pp bw bs), (ad 2, eT ad (nI cn) due lon), (ad 7, eI 81 (ca 7) wei), (ad 8, eL 32 (ca 8) ser), (ad 13, eL 81 (ca 13) pla)] sz) [(ad 1, eS ad pk pp ((m_ext m_pop cn pla wei ser d op fr wt tk (bw, bs)).1) ((m_ext m_pop cn pla wei ser d op fr wt tk (bw, bs)).2)), (ad 2, eT ad (nI cn) due lon), (ad 7, eI 81 (ca 7) wei), (ad 8, eL 32 (ca 8) ser), (ad 13, eL 81 (ca 13) pla)]) 0 0 (va_A [(ad 1, eS ad pk pp bw bs), (ad 2, eT ad (nI cn) due lon), (ad 7, eI 81 (ca 7) wei), (ad 8, eL 32 (ca 8) ser), (ad 13, eL 81 (ca 13) pla)] sz)) (sz : Nat) : Met l y_S_extend w_S_extend (rmE (d + 1)) (kw_P [.ref (ad 1), .int (nI dp), .long op, .long fr, .int wt, .long tk] sz (dC, dI) vC [(ad 1, eS ad pk pp bw bs), (ad 2, eT ad (nI cn) due lon), (ad 7, eI 81 (ca 7) wei), (ad 8, eL 32 (ca 8) ser), (ad 13, eL 81 (ca 13) pla)] [(ca 7, .int), (ca 8, .long), (ca 13, .long)]) (kw_Qv (dC, dI) vC [(ca 7, .int), (ca 8, .long), (ca 13, .long)] (va_A [(ad 1, eS ad pk pp bw bs), (ad 2, eT ad (nI cn) due lon), (ad 7, eI 81 (ca 7) wei), (ad 8, eL 32 (ca 8) ser), (ad 13, eL 81 (ca 13) pla)] sz) [(ad 1, eS ad pk pp ((m_ext m_pop cn pla wei ser (d + 1) op fr wt tk (bw, bs)).1) ((m_ext m_pop cn pla wei ser (d + 1) op fr wt tk (bw, bs)).2)), (ad 2, eT ad (nI cn) due lon), (ad 7, eI 81 (ca 7) wei), (ad 8, eL 32 (ca 8) ser), (ad 13, eL 81 (ca 13) pla)]) 0 0 (va_A [(ad 1, eS ad pk pp bw bs), (ad 2, eT ad (nI cn) due lon), (ad 7, eI 81 (ca 7) wei), (ad 8, eL 32 (ca 8) ser), (ad 13, eL 81 (ca 13) pla)] sz) := by
  refine Met.ofW (cc := b_S_extend) (maxL := 16) (ret := none) (by decide) rfl ?_
  intro p e s m args below meth c s₁ B hml hv
  obtain ⟨rfl, hsz, hP, hK, hD0⟩ := hv
  have hx := B.exec
  have hb := B.bytes
  have hr := B.returns
  have hts := atoms_spec (ws := w_S_extend) B.pre
  have hlocks := B.notSynchronized
  have hown : s.vm.findClass R_S = some m.cls := findClass_of_methodNamed B.named
  subst hsz
  have hD := hD0.self (sz := s.heap.size)
  generalize hAe : va_A [(ad 1, eS ad pk pp bw bs), (ad 2, eT ad (nI cn) due lon), (ad 7, eI 81 (ca 7) wei), (ad 8, eL 32 (ca 8) ser), (ad 13, eL 81 (ca 13) pla)] s.heap.size = A at hD ⊢
  have hA : ∀ q : Nat, s.heap.size ≤ q → A q := fun q h => by rw [← hAe]; exact Or.inr h
  have hS : va_S A s.heap s.heap [] := va_S.rf
  have hP : va_P (dC, dI) vC [(ad 1, eS ad pk pp bw bs), (ad 2, eT ad (nI cn) due lon), (ad 7, eI 81 (ca 7) wei), (ad 8, eL 32 (ca 8) ser), (ad 13, eL 81 (ca 13) pla)] s.heap := hP
  have hl := lv_entry ([.ref (ad 1), .int (nI dp), .long op, .long fr, .int wt, .long tk]) (n := 16) (Nat.le_of_ble_eq_true rfl)
  rw [lg_entry_eq]
  generalize (lg_sl ([.ref (ad 1), .int (nI dp), .long op, .long fr, .int wt, .long tk]) ++ List.replicate (16 - (lg_sl ([.ref (ad 1), .int (nI dp), .long op, .long fr, .int wt, .long tk])).length) Slot.unset).toArray = ls at hl ⊢
  have hl : lv_has ls 16 [(0, .ref (ad 1)), (1, .int (nI dp)), (2, .long op), (4, .long fr), (6, .int wt), (7, .long tk)] := hl
  refine lv_lload_n hx hb d_S_extend_0 rfl (lv_at hl 2 rfl) ?_
  refine lv_lconst (v := 0) hx hb d_S_extend_1 rfl ?_
  refine k_lne (tgt := 15) hx hb d_S_extend_2 d_S_extend_3 (by decide) (fun c_2 => ?_) (fun c_2 => ?_)
  · refine lv_iload_n hx hb d_S_extend_15 rfl (lv_at hl 1 rfl) ?_
    refine lv_bipush (v := 32) hx hb d_S_extend_16 (by decide) ?_
    refine k_lt (a := dp) (b := 32) (tgt := 22) hx hb rfl rfl (by omega) (by omega) d_S_extend_18 (by decide) (fun c_18 => ?_) (fun c_18 => ?_)
    · refine lv_aload_n hx hb d_S_extend_22 rfl (lv_at hl 0 rfl) ?_
      refine lv_lload_n hx hb d_S_extend_23 rfl (lv_at hl 2 rfl) ?_
      refine lv_lload hx hb d_S_extend_24 (lv_at hl 3 rfl) ?_
      have hPc := hP.sub (ws' := [(ad 1, eS ad pk pp bw bs), (ad 2, eT ad (nI cn) due lon), (ad 7, eI 81 (ca 7) wei), (ad 13, eL 81 (ca 13) pla)]) [0, 1, 2, 4] rfl
      have hKc := hK.sub (tys' := [(ca 7, .int), (ca 13, .long)]) [0, 2] rfl
      refine vp_callSl (W.runV (As := [.long op, .long fr]) (rest := []) ⟨hx, hb, hml, hown, hts⟩ (c_withoutDominated l dC dI ad ca pk pp bw bs cn hc due lon wei pla op fr) (cwV 2 hts (gd_V mw_272 mw_274 mw_13 mw_41 mw_275) rfl rfl rfl (by decide +kernel) ⟨Nat.le_of_ble_eq_true rfl, Nat.le_of_ble_eq_true rfl⟩) (kr_V (q0 := 0) (ci := 2) hKc hPc rfl rfl) rfl rfl hl.1 rfl (lv_room (Nat.le_of_ble_eq_true rfl)) d_S_extend_26 ⟨Nat.zero_le _, Nat.zero_le _⟩) (fun r hq => ?_)
      subst hq
      refine lv_lstore (lv' := [(9, .long (m_wd cn pla wei op fr)), (0, .ref (ad 1)), (1, .int (nI dp)), (2, .long op), (4, .long fr), (6, .int wt), (7, .long tk)]) hx hb d_S_extend_29 hl (by decide) rfl (fun ls hl => ?_)
      refine lv_aload_n hx hb d_S_extend_31 rfl (lv_at hl 1 rfl) ?_
      refine lv_iload hx hb d_S_extend_32 (lv_at hl 5 rfl) ?_
      refine lv_aload_n hx hb d_S_extend_34 rfl (lv_at hl 1 rfl) ?_
      refine lv_lload_n hx hb d_S_extend_35 rfl (lv_at hl 3 rfl) ?_
      refine lv_lload hx hb d_S_extend_36 (lv_at hl 0 rfl) ?_
      have hPc := hP.sub (ws' := [(ad 1, eS ad pk pp bw bs), (ad 2, eT ad (nI cn) due lon), (ad 7, eI 81 (ca 7) wei), (ad 8, eL 32 (ca 8) ser)]) [0, 1, 2, 3] rfl
      have hKc := hK.sub (tys' := [(ca 7, .int), (ca 8, .long)]) [0, 1] rfl
      refine vp_callSi (W.runV (As := [.long op, .long (m_wd cn pla wei op fr)]) (rest := [.int wt, .ref (ad 1)]) ⟨hx, hb, hml, hown, hts⟩ (c_weightToCome l dC dI ad ca pk pp bw bs cn hc due lon wei ser op (m_wd cn pla wei op fr)) (cwV 2 hts (gd_V mw_281 mw_283 mw_15 mw_41 mw_284) rfl rfl rfl (by decide +kernel) ⟨Nat.le_of_ble_eq_true rfl, Nat.le_of_ble_eq_true rfl⟩) (kr_V (q0 := 0) (ci := 2) hKc hPc rfl rfl) rfl rfl hl.1 rfl (lv_room (Nat.le_of_ble_eq_true rfl)) d_S_extend_38 ⟨Nat.zero_le _, Nat.zero_le _⟩) (fun r hq => ?_)
      subst hq
      refine lv_iadd hx hb d_S_extend_41 ?_
      refine lv_lload hx hb d_S_extend_42 (lv_at hl 6 rfl) ?_
      refine lv_lload hx hb d_S_extend_44 (lv_at hl 0 rfl) ?_
      refine lv_lor hx hb d_S_extend_46 ?_
      have hPc := hP.sub (ws' := [(ad 1, eS ad pk pp bw bs)]) [0] rfl
      have hKc := hK.sub (tys' := []) [] rfl
      refine vp_callSi (W.runV (As := [.int (wt + ((m_wtc cn wei ser op (m_wd cn pla wei op fr)).2)), .long (tk ||| (m_wd cn pla wei op fr))]) (rest := []) ⟨hx, hb, hml, hown, hts⟩ (c_isBetter l dC dI ad ca pk pp bw bs (wt + ((m_wtc cn wei ser op (m_wd cn pla wei op fr)).2)) (tk ||| (m_wd cn pla wei op fr))) (cwV 2 hts (gd_V mw_268 mw_270 mw_12 mw_41 mw_271) rfl rfl rfl (by decide +kernel) ⟨Nat.le_of_ble_eq_true rfl, Nat.le_of_ble_eq_true rfl⟩) (kr_V (q0 := 0) (ci := 2) hKc hPc rfl rfl) rfl rfl hl.1 rfl (lv_room (Nat.le_of_ble_eq_true rfl)) d_S_extend_47 ⟨Nat.zero_le _, Nat.zero_le _⟩) (fun r hq => ?_)
      subst hq
      refine k_bne (b := (m_bet (wt + ((m_wtc cn wei ser op (m_wd cn pla wei op fr)).2)) (tk ||| (m_wd cn pla wei op fr)) bw bs)) (tgt := 54) hx hb d_S_extend_50 (by decide) (fun c_50 => ?_) (fun c_50 => ?_)
      · refine lv_aload_n hx hb d_S_extend_54 rfl (lv_at hl 1 rfl) ?_
        refine lv_lload_n hx hb d_S_extend_55 rfl (lv_at hl 3 rfl) ?_
        refine lv_lload hx hb d_S_extend_56 (lv_at hl 0 rfl) ?_
        have hPc := hP.sub (ws' := [(ad 1, eS ad pk pp bw bs), (ad 8, eL 32 (ca 8) ser)]) [0, 3] rfl
        have hKc := hK.sub (tys' := [(ca 8, .long)]) [1] rfl
        refine vp_callSl (W.runV (As := [.long op, .long (m_wd cn pla wei op fr)]) (rest := []) ⟨hx, hb, hml, hown, hts⟩ (c_fewestServers l dC dI ad ca pk pp bw bs ser op (m_wd cn pla wei op fr)) (cwV 2 hts (gd_V mw_292 mw_294 mw_17 mw_41 mw_295) rfl rfl rfl (by decide +kernel) ⟨Nat.le_of_ble_eq_true rfl, Nat.le_of_ble_eq_true rfl⟩) (kr_V (q0 := 0) (ci := 2) hKc hPc rfl rfl) rfl rfl hl.1 rfl (lv_room (Nat.le_of_ble_eq_true rfl)) d_S_extend_58 ⟨Nat.zero_le _, Nat.zero_le _⟩) (fun r hq => ?_)
        subst hq
        refine lv_lstore (lv' := [(11, .long (m_few m_pop ser op (m_wd cn pla wei op fr))), (9, .long (m_wd cn pla wei op fr)), (0, .ref (ad 1)), (1, .int (nI dp)), (2, .long op), (4, .long fr), (6, .int wt), (7, .long tk)]) hx hb d_S_extend_61 hl (by decide) rfl (fun ls hl => ?_)
        refine lv_iconst (v := 0) hx hb d_S_extend_63 (by decide) ?_
        refine lv_istore (lv' := [(13, .int 0), (11, .long (m_few m_pop ser op (m_wd cn pla wei op fr))), (9, .long (m_wd cn pla wei op fr)), (0, .ref (ad 1)), (1, .int (nI dp)), (2, .long op), (4, .long fr), (6, .int wt), (7, .long tk)]) hx hb d_S_extend_64 hl (by decide) rfl (fun ls hl => ?_)
        refine k_loopH (fun iv H locs ls => lv_has ls 16 [(0, .ref (ad 1)), (1, .int (nI dp)), (2, .long op), (4, .long fr), (6, .int wt), (7, .long tk), (9, .long ((fo (m_loopf pla wei (m_few m_pop ser op (m_wd cn pla wei op fr)) op wt tk (m_ext m_pop cn pla wei ser d)) iv (m_wd cn pla wei op fr, (bw, bs))).1)), (11, .long (m_few m_pop ser op (m_wd cn pla wei op fr))), (13, .int (nI iv))] ∧ va_P (dC, dI) vC [(ad 1, eS ad pk pp ((fo (m_loopf pla wei (m_few m_pop ser op (m_wd cn pla wei op fr)) op wt tk (m_ext m_pop cn pla wei ser d)) iv (m_wd cn pla wei op fr, (bw, bs))).2.1) ((fo (m_loopf pla wei (m_few m_pop ser op (m_wd cn pla wei op fr)) op wt tk (m_ext m_pop cn pla wei ser d)) iv (m_wd cn pla wei op fr, (bw, bs))).2.2)), (ad 2, eT ad (nI cn) due lon), (ad 7, eI 81 (ca 7) wei), (ad 8, eL 32 (ca 8) ser), (ad 13, eL 81 (ca 13) pla)] H ∧ va_D A [(ad 1, eS ad pk pp ((fo (m_loopf pla wei (m_few m_pop ser op (m_wd cn pla wei op fr)) op wt tk (m_ext m_pop cn pla wei ser d)) iv (m_wd cn pla wei op fr, (bw, bs))).2.1) ((fo (m_loopf pla wei (m_few m_pop ser op (m_wd cn pla wei op fr)) op wt tk (m_ext m_pop cn pla wei ser d)) iv (m_wd cn pla wei op fr, (bw, bs))).2.2)), (ad 2, eT ad (nI cn) due lon), (ad 7, eI 81 (ca 7) wei), (ad 8, eL 32 (ca 8) ser), (ad 13, eL 81 (ca 13) pla)] ∧ va_S A s.heap H locs ∧ True) cn ?_ 0 _ _ _ (Nat.zero_le _) ?_
        · intro iv H locs ls hiiv hI ihiv
          obtain ⟨hl, hP, hD, hS, -⟩ := hI
          refine lv_iload hx hb d_S_extend_66 (lv_at hl 8 rfl) ?_
          refine lv_aload_n hx hb d_S_extend_68 rfl (lv_at hl 0 rfl) ?_
          refine va_get (D := (dC, dI)) (ci := 2) (v := .ref (ad 2)) (C := R_S) (T := F_S) (N := 8) hx hb hts (hin_of in_S) hown hK hP 0 rfl rfl 3 (by decide) (hw_of hts mw_144) (fun _ h9 => h9) rfl d_S_extend_69 ?_
          refine va_get (D := (dC, dI)) (ci := 0) (v := .int (nI cn)) (C := R_T) (T := F_T) (N := 10) hx hb hts (hin_of in_T) hown hK hP 1 rfl rfl 5 (by decide) (hw_of hts mw_109) (fun _ h9 => h9) rfl d_S_extend_72 ?_
          refine k_ge (a := iv) (b := cn) (tgt := 151) hx hb rfl rfl (by omega) (by omega) d_S_extend_75 (by decide) (fun c_75 => ?_) (fun c_75 => ?_)
          · obtain rfl : cn = iv := by omega
            have e_1 : (m_ext m_pop cn pla wei ser (d + 1) op fr wt tk (bw, bs)).1 = (fo (m_loopf pla wei (m_few m_pop ser op (m_wd cn pla wei op fr)) op wt tk (m_ext m_pop cn pla wei ser d)) cn (m_wd cn pla wei op fr, (bw, bs))).2.1 := by simp [m_ext, c_2, c_18, c_50, c_75]
            have e_2 : (m_ext m_pop cn pla wei ser (d + 1) op fr wt tk (bw, bs)).2 = (fo (m_loopf pla wei (m_few m_pop ser op (m_wd cn pla wei op fr)) op wt tk (m_ext m_pop cn pla wei ser d)) cn (m_wd cn pla wei op fr, (bw, bs))).2.2 := by simp [m_ext, c_2, c_18, c_50, c_75]
            exact W.vret hx hb hr (fun t ht hW => by (try rw [e_1]); (try rw [e_2]); exact kw_endv hP hD hK hS [0, 1, 2, 3, 4] rfl (by decide) rfl ht hW.alike) hS.2.2 d_S_extend_151
          · refine lv_lconst (v := 1) hx hb d_S_extend_78 rfl ?_
            refine lv_iload hx hb d_S_extend_79 (lv_at hl 8 rfl) ?_
            refine lv_lshl (v := zo iv) hx hb d_S_extend_81 rfl ?_
            refine lv_lstore (lv' := [(14, .long (zo iv)), (0, .ref (ad 1)), (1, .int (nI dp)), (2, .long op), (4, .long fr), (6, .int wt), (7, .long tk), (9, .long ((fo (m_loopf pla wei (m_few m_pop ser op (m_wd cn pla wei op fr)) op wt tk (m_ext m_pop cn pla wei ser d)) iv (m_wd cn pla wei op fr, (bw, bs))).1)), (11, .long (m_few m_pop ser op (m_wd cn pla wei op fr))), (13, .int (nI iv))]) hx hb d_S_extend_82 hl (by decide) rfl (fun ls hl => ?_)
            refine lv_lload hx hb d_S_extend_84 (lv_at hl 8 rfl) ?_
            refine lv_lload hx hb d_S_extend_86 (lv_at hl 0 rfl) ?_
            refine lv_land hx hb d_S_extend_88 ?_
            refine lv_lconst (v := 0) hx hb d_S_extend_89 rfl ?_
            refine k_leq (tgt := 145) hx hb d_S_extend_90 d_S_extend_91 (by decide) (fun c_90 => ?_) (fun c_90 => ?_)
            · have b_90 := (zb_tz _ (by omega)).mp c_90
              refine lv_iinc (v := nI (iv + 1)) (lv' := [(13, .int (nI (iv + 1))), (14, .long (zo iv)), (0, .ref (ad 1)), (1, .int (nI dp)), (2, .long op), (4, .long fr), (6, .int wt), (7, .long tk), (9, .long ((fo (m_loopf pla wei (m_few m_pop ser op (m_wd cn pla wei op fr)) op wt tk (m_ext m_pop cn pla wei ser d)) iv (m_wd cn pla wei op fr, (bw, bs))).1)), (11, .long (m_few m_pop ser op (m_wd cn pla wei op fr)))]) hx hb d_S_extend_145 hl (k := 9) rfl (k_inc _) (by decide) rfl (fun ls hl => ?_)
              refine lv_goto (tgt := 66) hx hb d_S_extend_148 (by decide) ?_
              refine ihiv _ _ _ (by omega) ?_
              have e_3 : (fo (m_loopf pla wei (m_few m_pop ser op (m_wd cn pla wei op fr)) op wt tk (m_ext m_pop cn pla wei ser d)) (iv + 1) (m_wd cn pla wei op fr, (bw, bs))).1 = (fo (m_loopf pla wei (m_few m_pop ser op (m_wd cn pla wei op fr)) op wt tk (m_ext m_pop cn pla wei ser d)) iv (m_wd cn pla wei op fr, (bw, bs))).1 := by simp [fo_s, m_loopf, c_2, c_18, c_50, c_75, c_90, b_90]
              have e_4 : (fo (m_loopf pla wei (m_few m_pop ser op (m_wd cn pla wei op fr)) op wt tk (m_ext m_pop cn pla wei ser d)) (iv + 1) (m_wd cn pla wei op fr, (bw, bs))).2.1 = (fo (m_loopf pla wei (m_few m_pop ser op (m_wd cn pla wei op fr)) op wt tk (m_ext m_pop cn pla wei ser d)) iv (m_wd cn pla wei op fr, (bw, bs))).2.1 := by simp [fo_s, m_loopf, c_2, c_18, c_50, c_75, c_90, b_90]
              have e_5 : (fo (m_loopf pla wei (m_few m_pop ser op (m_wd cn pla wei op fr)) op wt tk (m_ext m_pop cn pla wei ser d)) (iv + 1) (m_wd cn pla wei op fr, (bw, bs))).2.2 = (fo (m_loopf pla wei (m_few m_pop ser op (m_wd cn pla wei op fr)) op wt tk (m_ext m_pop cn pla wei ser d)) iv (m_wd cn pla wei op fr, (bw, bs))).2.2 := by simp [fo_s, m_loopf, c_2, c_18, c_50, c_75, c_90, b_90]
              exact ⟨by (try rw [e_3]); (try rw [e_4]); (try rw [e_5]); exact lv_sub hl [2, 3, 4, 5, 6, 7, 8, 9, 0] rfl, by (try rw [e_3]); (try rw [e_4]); (try rw [e_5]); exact hP, by (try rw [e_3]); (try rw [e_4]); (try rw [e_5]); exact hD, hS, trivial⟩
            · have b_90 := (zb_tzn _ (by omega)).mp c_90
              refine lv_lload hx hb d_S_extend_94 (lv_at hl 7 rfl) ?_
              refine lv_lload hx hb d_S_extend_96 (lv_at hl 0 rfl) ?_
              refine lv_ldc2 hx hb hown (hw_of hts mw_280) d_S_extend_98 ?_
              refine lv_lxor hx hb d_S_extend_101 ?_
              refine lv_land hx hb d_S_extend_102 ?_
              refine lv_lstore (lv' := [(9, .long (((fo (m_loopf pla wei (m_few m_pop ser op (m_wd cn pla wei op fr)) op wt tk (m_ext m_pop cn pla wei ser d)) iv (m_wd cn pla wei op fr, (bw, bs))).1) &&& ((zo iv) ^^^ (-1)))), (14, .long (zo iv)), (0, .ref (ad 1)), (1, .int (nI dp)), (2, .long op), (4, .long fr), (6, .int wt), (7, .long tk), (11, .long (m_few m_pop ser op (m_wd cn pla wei op fr))), (13, .int (nI iv))]) hx hb d_S_extend_103 hl (by decide) rfl (fun ls hl => ?_)
              refine lv_aload_n hx hb d_S_extend_105 rfl (lv_at hl 2 rfl) ?_
              refine lv_iload_n hx hb d_S_extend_106 rfl (lv_at hl 3 rfl) ?_
              refine lv_iconst (v := 1) hx hb d_S_extend_107 (by decide) ?_
              refine k_iadd (a := dp) (b := 1) hx hb rfl rfl d_S_extend_108 ?_
              refine lv_lload_n hx hb d_S_extend_109 rfl (lv_at hl 4 rfl) ?_
              refine lv_aload_n hx hb d_S_extend_110 rfl (lv_at hl 2 rfl) ?_
              refine va_get (D := (dC, dI)) (ci := 2) (v := .ref (ad 2)) (C := R_S) (T := F_S) (N := 8) hx hb hts (hin_of in_S) hown hK hP 0 rfl rfl 3 (by decide) (hw_of hts mw_144) (fun _ h9 => h9) rfl d_S_extend_111 ?_
              refine va_get (D := (dC, dI)) (ci := 0) (v := .ref (ad 13)) (C := R_T) (T := F_T) (N := 10) hx hb hts (hin_of in_T) hown hK hP 1 rfl rfl 4 (by decide) (hw_of hts mw_108) (fun _ h9 => h9) rfl d_S_extend_114 ?_
              refine lv_iload hx hb d_S_extend_117 (lv_at hl 9 rfl) ?_
              refine k_lald (k := iv) hx hb hK hP 4 2 rfl rfl rfl (by omega) (by decide) d_S_extend_119 ?_
              refine lv_ldc2 hx hb hown (hw_of hts mw_280) d_S_extend_120 ?_
              refine lv_lxor hx hb d_S_extend_123 ?_
              refine lv_land hx hb d_S_extend_124 ?_
              refine lv_lload hx hb d_S_extend_125 (lv_at hl 0 rfl) ?_
              refine lv_iload hx hb d_S_extend_127 (lv_at hl 6 rfl) ?_
              refine lv_aload_n hx hb d_S_extend_129 rfl (lv_at hl 2 rfl) ?_
              refine va_get (D := (dC, dI)) (ci := 2) (v := .ref (ad 7)) (C := R_S) (T := F_S) (N := 8) hx hb hts (hin_of in_S) hown hK hP 0 rfl rfl 4 (by decide) (hw_of hts mw_146) (fun _ h9 => h9) rfl d_S_extend_130 ?_
              refine lv_iload hx hb d_S_extend_133 (lv_at hl 9 rfl) ?_
              refine k_iald (k := iv) hx hb hK hP 2 0 rfl rfl rfl (by omega) (by decide) d_S_extend_135 ?_
              refine lv_iadd hx hb d_S_extend_136 ?_
              refine lv_lload hx hb d_S_extend_137 (lv_at hl 7 rfl) ?_
              refine lv_lload hx hb d_S_extend_139 (lv_at hl 1 rfl) ?_
              refine lv_lor hx hb d_S_extend_141 ?_
              have hPc := hP.sub (ws' := [(ad 1, eS ad pk pp ((fo (m_loopf pla wei (m_few m_pop ser op (m_wd cn pla wei op fr)) op wt tk (m_ext m_pop cn pla wei ser d)) iv (m_wd cn pla wei op fr, (bw, bs))).2.1) ((fo (m_loopf pla wei (m_few m_pop ser op (m_wd cn pla wei op fr)) op wt tk (m_ext m_pop cn pla wei ser d)) iv (m_wd cn pla wei op fr, (bw, bs))).2.2)), (ad 2, eT ad (nI cn) due lon), (ad 7, eI 81 (ca 7) wei), (ad 8, eL 32 (ca 8) ser), (ad 13, eL 81 (ca 13) pla)]) [0, 1, 2, 3, 4] rfl
              have hDc := hD.sub (ws' := [(ad 1, eS ad pk pp ((fo (m_loopf pla wei (m_few m_pop ser op (m_wd cn pla wei op fr)) op wt tk (m_ext m_pop cn pla wei ser d)) iv (m_wd cn pla wei op fr, (bw, bs))).2.1) ((fo (m_loopf pla wei (m_few m_pop ser op (m_wd cn pla wei op fr)) op wt tk (m_ext m_pop cn pla wei ser d)) iv (m_wd cn pla wei op fr, (bw, bs))).2.2)), (ad 2, eT ad (nI cn) due lon), (ad 7, eI 81 (ca 7) wei), (ad 8, eL 32 (ca 8) ser), (ad 13, eL 81 (ca 13) pla)]) [0, 1, 2, 3, 4] (by decide) rfl
              have hKc := hK.sub (tys' := [(ca 7, .int), (ca 8, .long), (ca 13, .long)]) [0, 1, 2] rfl
              refine kw_callv (wr := []) (wf := [(ad 1, eS ad pk pp ((m_ext m_pop cn pla wei ser d (op &&& ((pla iv) ^^^ (-1))) (((fo (m_loopf pla wei (m_few m_pop ser op (m_wd cn pla wei op fr)) op wt tk (m_ext m_pop cn pla wei ser d)) iv (m_wd cn pla wei op fr, (bw, bs))).1) &&& ((zo iv) ^^^ (-1))) (wt + (wei iv)) (tk ||| (zo iv)) (((fo (m_loopf pla wei (m_few m_pop ser op (m_wd cn pla wei op fr)) op wt tk (m_ext m_pop cn pla wei ser d)) iv (m_wd cn pla wei op fr, (bw, bs))).2.1), ((fo (m_loopf pla wei (m_few m_pop ser op (m_wd cn pla wei op fr)) op wt tk (m_ext m_pop cn pla wei ser d)) iv (m_wd cn pla wei op fr, (bw, bs))).2.2))).1) ((m_ext m_pop cn pla wei ser d (op &&& ((pla iv) ^^^ (-1))) (((fo (m_loopf pla wei (m_few m_pop ser op (m_wd cn pla wei op fr)) op wt tk (m_ext m_pop cn pla wei ser d)) iv (m_wd cn pla wei op fr, (bw, bs))).1) &&& ((zo iv) ^^^ (-1))) (wt + (wei iv)) (tk ||| (zo iv)) (((fo (m_loopf pla wei (m_few m_pop ser op (m_wd cn pla wei op fr)) op wt tk (m_ext m_pop cn pla wei ser d)) iv (m_wd cn pla wei op fr, (bw, bs))).2.1), ((fo (m_loopf pla wei (m_few m_pop ser op (m_wd cn pla wei op fr)) op wt tk (m_ext m_pop cn pla wei ser d)) iv (m_wd cn pla wei op fr, (bw, bs))).2.2))).2)), (ad 2, eT ad (nI cn) due lon), (ad 7, eI 81 (ca 7) wei), (ad 8, eL 32 (ca 8) ser), (ad 13, eL 81 (ca 13) pla)]) (va_runV (As := [.int (nI (dp + 1)), .long (op &&& ((pla iv) ^^^ (-1))), .long (((fo (m_loopf pla wei (m_few m_pop ser op (m_wd cn pla wei op fr)) op wt tk (m_ext m_pop cn pla wei ser d)) iv (m_wd cn pla wei op fr, (bw, bs))).1) &&& ((zo iv) ^^^ (-1))), .int (wt + (wei iv)), .long (tk ||| (zo iv))]) (rest := []) ⟨hx, hb, hml, hown, hts⟩ (ih pk pp ((fo (m_loopf pla wei (m_few m_pop ser op (m_wd cn pla wei op fr)) op wt tk (m_ext m_pop cn pla wei ser d)) iv (m_wd cn pla wei op fr, (bw, bs))).2.1) ((fo (m_loopf pla wei (m_few m_pop ser op (m_wd cn pla wei op fr)) op wt tk (m_ext m_pop cn pla wei ser d)) iv (m_wd cn pla wei op fr, (bw, bs))).2.2) cn hc due lon wei ser pla (dp + 1) (op &&& ((pla iv) ^^^ (-1))) (((fo (m_loopf pla wei (m_few m_pop ser op (m_wd cn pla wei op fr)) op wt tk (m_ext m_pop cn pla wei ser d)) iv (m_wd cn pla wei op fr, (bw, bs))).1) &&& ((zo iv) ^^^ (-1))) (wt + (wei iv)) (tk ||| (zo iv)) _ (by omega)) (cwV 5 hts (gd_V mw_260 mw_262 mw_10 mw_41 mw_263) rfl rfl rfl (by decide +kernel) ⟨by show d + 3 + 1 ≤ d + 1 + 3; omega, by show 8 + (16 + 11) + (35 * d + 120) ≤ 35 * (d + 1) + 120; omega⟩) (kw_V (q0 := 0) (ci := 2) hKc hPc hDc rfl rfl) rfl rfl hl.1 rfl (lv_room (Nat.le_of_ble_eq_true rfl)) d_S_extend_142 ⟨Nat.zero_le _, Nat.zero_le _⟩) hP hD hS hA [0, 1, 2, 3, 4] [] rfl rfl (by decide) (by decide) (fun H locs hP hD hS => ?_)
              have hP : va_P (dC, dI) vC [(ad 1, eS ad pk pp ((m_ext m_pop cn pla wei ser d (op &&& ((pla iv) ^^^ (-1))) (((fo (m_loopf pla wei (m_few m_pop ser op (m_wd cn pla wei op fr)) op wt tk (m_ext m_pop cn pla wei ser d)) iv (m_wd cn pla wei op fr, (bw, bs))).1) &&& ((zo iv) ^^^ (-1))) (wt + (wei iv)) (tk ||| (zo iv)) (((fo (m_loopf pla wei (m_few m_pop ser op (m_wd cn pla wei op fr)) op wt tk (m_ext m_pop cn pla wei ser d)) iv (m_wd cn pla wei op fr, (bw, bs))).2.1), ((fo (m_loopf pla wei (m_few m_pop ser op (m_wd cn pla wei op fr)) op wt tk (m_ext m_pop cn pla wei ser d)) iv (m_wd cn pla wei op fr, (bw, bs))).2.2))).1) ((m_ext m_pop cn pla wei ser d (op &&& ((pla iv) ^^^ (-1))) (((fo (m_loopf pla wei (m_few m_pop ser op (m_wd cn pla wei op fr)) op wt tk (m_ext m_pop cn pla wei ser d)) iv (m_wd cn pla wei op fr, (bw, bs))).1) &&& ((zo iv) ^^^ (-1))) (wt + (wei iv)) (tk ||| (zo iv)) (((fo (m_loopf pla wei (m_few m_pop ser op (m_wd cn pla wei op fr)) op wt tk (m_ext m_pop cn pla wei ser d)) iv (m_wd cn pla wei op fr, (bw, bs))).2.1), ((fo (m_loopf pla wei (m_few m_pop ser op (m_wd cn pla wei op fr)) op wt tk (m_ext m_pop cn pla wei ser d)) iv (m_wd cn pla wei op fr, (bw, bs))).2.2))).2)), (ad 2, eT ad (nI cn) due lon), (ad 7, eI 81 (ca 7) wei), (ad 8, eL 32 (ca 8) ser), (ad 13, eL 81 (ca 13) pla)] H := hP
              have hD : va_D A [(ad 1, eS ad pk pp ((m_ext m_pop cn pla wei ser d (op &&& ((pla iv) ^^^ (-1))) (((fo (m_loopf pla wei (m_few m_pop ser op (m_wd cn pla wei op fr)) op wt tk (m_ext m_pop cn pla wei ser d)) iv (m_wd cn pla wei op fr, (bw, bs))).1) &&& ((zo iv) ^^^ (-1))) (wt + (wei iv)) (tk ||| (zo iv)) (((fo (m_loopf pla wei (m_few m_pop ser op (m_wd cn pla wei op fr)) op wt tk (m_ext m_pop cn pla wei ser d)) iv (m_wd cn pla wei op fr, (bw, bs))).2.1), ((fo (m_loopf pla wei (m_few m_pop ser op (m_wd cn pla wei op fr)) op wt tk (m_ext m_pop cn pla wei ser d)) iv (m_wd cn pla wei op fr, (bw, bs))).2.2))).1) ((m_ext m_pop cn pla wei ser d (op &&& ((pla iv) ^^^ (-1))) (((fo (m_loopf pla wei (m_few m_pop ser op (m_wd cn pla wei op fr)) op wt tk (m_ext m_pop cn pla wei ser d)) iv (m_wd cn pla wei op fr, (bw, bs))).1) &&& ((zo iv) ^^^ (-1))) (wt + (wei iv)) (tk ||| (zo iv)) (((fo (m_loopf pla wei (m_few m_pop ser op (m_wd cn pla wei op fr)) op wt tk (m_ext m_pop cn pla wei ser d)) iv (m_wd cn pla wei op fr, (bw, bs))).2.1), ((fo (m_loopf pla wei (m_few m_pop ser op (m_wd cn pla wei op fr)) op wt tk (m_ext m_pop cn pla wei ser d)) iv (m_wd cn pla wei op fr, (bw, bs))).2.2))).2)), (ad 2, eT ad (nI cn) due lon), (ad 7, eI 81 (ca 7) wei), (ad 8, eL 32 (ca 8) ser), (ad 13, eL 81 (ca 13) pla)] := hD
              refine lv_iinc (v := nI (iv + 1)) (lv' := [(13, .int (nI (iv + 1))), (9, .long (((fo (m_loopf pla wei (m_few m_pop ser op (m_wd cn pla wei op fr)) op wt tk (m_ext m_pop cn pla wei ser d)) iv (m_wd cn pla wei op fr, (bw, bs))).1) &&& ((zo iv) ^^^ (-1)))), (14, .long (zo iv)), (0, .ref (ad 1)), (1, .int (nI dp)), (2, .long op), (4, .long fr), (6, .int wt), (7, .long tk), (11, .long (m_few m_pop ser op (m_wd cn pla wei op fr)))]) hx hb d_S_extend_145 hl (k := 9) rfl (k_inc _) (by decide) rfl (fun ls hl => ?_)
              refine lv_goto (tgt := 66) hx hb d_S_extend_148 (by decide) ?_
              refine ihiv _ _ _ (by omega) ?_
              have e_6 : (fo (m_loopf pla wei (m_few m_pop ser op (m_wd cn pla wei op fr)) op wt tk (m_ext m_pop cn pla wei ser d)) (iv + 1) (m_wd cn pla wei op fr, (bw, bs))).1 = ((fo (m_loopf pla wei (m_few m_pop ser op (m_wd cn pla wei op fr)) op wt tk (m_ext m_pop cn pla wei ser d)) iv (m_wd cn pla wei op fr, (bw, bs))).1) &&& ((zo iv) ^^^ (-1)) := by simp [fo_s, m_loopf, c_2, c_18, c_50, c_75, c_90, b_90]
              have e_7 : (fo (m_loopf pla wei (m_few m_pop ser op (m_wd cn pla wei op fr)) op wt tk (m_ext m_pop cn pla wei ser d)) (iv + 1) (m_wd cn pla wei op fr, (bw, bs))).2.1 = (m_ext m_pop cn pla wei ser d (op &&& ((pla iv) ^^^ (-1))) (((fo (m_loopf pla wei (m_few m_pop ser op (m_wd cn pla wei op fr)) op wt tk (m_ext m_pop cn pla wei ser d)) iv (m_wd cn pla wei op fr, (bw, bs))).1) &&& ((zo iv) ^^^ (-1))) (wt + (wei iv)) (tk ||| (zo iv)) (((fo (m_loopf pla wei (m_few m_pop ser op (m_wd cn pla wei op fr)) op wt tk (m_ext m_pop cn pla wei ser d)) iv (m_wd cn pla wei op fr, (bw, bs))).2.1), ((fo (m_loopf pla wei (m_few m_pop ser op (m_wd cn pla wei op fr)) op wt tk (m_ext m_pop cn pla wei ser d)) iv (m_wd cn pla wei op fr, (bw, bs))).2.2))).1 := by simp [fo_s, m_loopf, c_2, c_18, c_50, c_75, c_90, b_90]
              have e_8 : (fo (m_loopf pla wei (m_few m_pop ser op (m_wd cn pla wei op fr)) op wt tk (m_ext m_pop cn pla wei ser d)) (iv + 1) (m_wd cn pla wei op fr, (bw, bs))).2.2 = (m_ext m_pop cn pla wei ser d (op &&& ((pla iv) ^^^ (-1))) (((fo (m_loopf pla wei (m_few m_pop ser op (m_wd cn pla wei op fr)) op wt tk (m_ext m_pop cn pla wei ser d)) iv (m_wd cn pla wei op fr, (bw, bs))).1) &&& ((zo iv) ^^^ (-1))) (wt + (wei iv)) (tk ||| (zo iv)) (((fo (m_loopf pla wei (m_few m_pop ser op (m_wd cn pla wei op fr)) op wt tk (m_ext m_pop cn pla wei ser d)) iv (m_wd cn pla wei op fr, (bw, bs))).2.1), ((fo (m_loopf pla wei (m_few m_pop ser op (m_wd cn pla wei op fr)) op wt tk (m_ext m_pop cn pla wei ser d)) iv (m_wd cn pla wei op fr, (bw, bs))).2.2))).2 := by simp [fo_s, m_loopf, c_2, c_18, c_50, c_75, c_90, b_90]
              exact ⟨by (try rw [e_6]); (try rw [e_7]); (try rw [e_8]); exact lv_sub hl [3, 4, 5, 6, 7, 8, 1, 9, 0] rfl, by (try rw [e_6]); (try rw [e_7]); (try rw [e_8]); exact hP, by (try rw [e_6]); (try rw [e_7]); (try rw [e_8]); exact hD, hS, trivial⟩
        · have hdone : True := trivial
          have e_9 : (fo (m_loopf pla wei (m_few m_pop ser op (m_wd cn pla wei op fr)) op wt tk (m_ext m_pop cn pla wei ser d)) 0 (m_wd cn pla wei op fr, (bw, bs))).1 = m_wd cn pla wei op fr := rfl
          have e_10 : nI 0 = 0 := rfl
          have e_11 : (fo (m_loopf pla wei (m_few m_pop ser op (m_wd cn pla wei op fr)) op wt tk (m_ext m_pop cn pla wei ser d)) 0 (m_wd cn pla wei op fr, (bw, bs))).2.1 = bw := rfl
          have e_12 : (fo (m_loopf pla wei (m_few m_pop ser op (m_wd cn pla wei op fr)) op wt tk (m_ext m_pop cn pla wei ser d)) 0 (m_wd cn pla wei op fr, (bw, bs))).2.2 = bs := rfl
          exact ⟨by (try rw [e_9]); (try rw [e_10]); (try rw [e_11]); (try rw [e_12]); exact lv_sub hl [3, 4, 5, 6, 7, 8, 2, 1, 0] rfl, by (try rw [e_9]); (try rw [e_10]); (try rw [e_11]); (try rw [e_12]); exact hP, by (try rw [e_9]); (try rw [e_10]); (try rw [e_11]); (try rw [e_12]); exact hD, hS, trivial⟩
      · have e_13 : (m_ext m_pop cn pla wei ser (d + 1) op fr wt tk (bw, bs)).1 = bw := by simp [m_ext, c_2, c_18, c_50]
        have e_14 : (m_ext m_pop cn pla wei ser (d + 1) op fr wt tk (bw, bs)).2 = bs := by simp [m_ext, c_2, c_18, c_50]
        exact W.vret hx hb hr (fun t ht hW => by (try rw [e_13]); (try rw [e_14]); exact kw_endv hP hD hK hS [0, 1, 2, 3, 4] rfl (by decide) rfl ht hW.alike) hS.2.2 d_S_extend_53
    · exfalso; omega
  · refine lv_aload_n hx hb d_S_extend_6 rfl (lv_at hl 0 rfl) ?_
    refine lv_iload hx hb d_S_extend_7 (lv_at hl 4 rfl) ?_
    refine lv_lload hx hb d_S_extend_9 (lv_at hl 5 rfl) ?_
    have hPc := hP.sub (ws' := [(ad 1, eS ad pk pp bw bs)]) [0] rfl
    have hDc := hD.sub (ws' := [(ad 1, eS ad pk pp bw bs)]) [0] (by decide) rfl
    have hKc := hK.sub (tys' := []) [] rfl
    refine kw_callv (wr := [(ad 2, eT ad (nI cn) due lon), (ad 7, eI 81 (ca 7) wei), (ad 8, eL 32 (ca 8) ser), (ad 13, eL 81 (ca 13) pla)]) (wf := [(ad 1, eS ad pk pp ((m_keep wt tk (bw, bs)).1) ((m_keep wt tk (bw, bs)).2))]) (va_runV (As := [.int wt, .long tk]) (rest := []) ⟨hx, hb, hml, hown, hts⟩ (c_keepIfBetter l dC dI ad ca pk pp bw bs wt tk _) (cwV 2 hts (gd_V mw_264 mw_266 mw_11 mw_41 mw_267) rfl rfl rfl (by decide +kernel) ⟨Nat.le_of_ble_eq_true rfl, Nat.le_of_ble_eq_true rfl⟩) (kw_V (q0 := 0) (ci := 2) hKc hPc hDc rfl rfl) rfl rfl hl.1 rfl (lv_room (Nat.le_of_ble_eq_true rfl)) d_S_extend_11 ⟨Nat.zero_le _, Nat.zero_le _⟩) hP hD hS hA [0] [1, 2, 3, 4] rfl rfl (by decide) (by decide) (fun H locs hP hD hS => ?_)
    have hP : va_P (dC, dI) vC [(ad 2, eT ad (nI cn) due lon), (ad 7, eI 81 (ca 7) wei), (ad 8, eL 32 (ca 8) ser), (ad 13, eL 81 (ca 13) pla), (ad 1, eS ad pk pp ((m_keep wt tk (bw, bs)).1) ((m_keep wt tk (bw, bs)).2))] H := hP
    have hD : va_D A [(ad 2, eT ad (nI cn) due lon), (ad 7, eI 81 (ca 7) wei), (ad 8, eL 32 (ca 8) ser), (ad 13, eL 81 (ca 13) pla), (ad 1, eS ad pk pp ((m_keep wt tk (bw, bs)).1) ((m_keep wt tk (bw, bs)).2))] := hD
    have e_15 : (m_ext m_pop cn pla wei ser (d + 1) op fr wt tk (bw, bs)).1 = (m_keep wt tk (bw, bs)).1 := by simp [m_ext, c_2]
    have e_16 : (m_ext m_pop cn pla wei ser (d + 1) op fr wt tk (bw, bs)).2 = (m_keep wt tk (bw, bs)).2 := by simp [m_ext, c_2]
    exact W.vret hx hb hr (fun t ht hW => by (try rw [e_15]); (try rw [e_16]); exact kw_endv hP hD hK hS [4, 0, 1, 2, 3] rfl (by decide) rfl ht hW.alike) hS.2.2 d_S_extend_14
end
section

/-- the search from a level on: by induction on the levels that are left -/
theorem c_extend (l : Launch) (dC : Nat → ClassId) (dI : Nat → Nat → Nat) (ad : Nat → Nat) (ca : Nat → ClassId) : ∀ (d : Nat) (pk pp bw : Int32) (bs : Int64) (cn : Nat) (hc : cn ≤ 63) (due lon : Int64) (wei : Nat → Int32) (ser pla : Nat → Int64) (dp : Nat) (op fr : Int64) (wt : Int32) (tk : Int64) (sz : Nat), dp + d = 32 → Met l y_S_extend w_S_extend (rmE d) (kw_P [.ref (ad 1), .int (nI dp), .long op, .long fr, .int wt, .long tk] sz (dC, dI) vC [(ad 1, eS ad pk pp bw bs), (ad 2, eT ad (nI cn) due lon), (ad 7, eI 81 (ca 7) wei), (ad 8, eL 32 (ca 8) ser), (ad 13, eL 81 (ca 13) pla)] [(ca 7, .int), (ca 8, .long), (ca 13, .long)]) (kw_Qv (dC, dI) vC [(ca 7, .int), (ca 8, .long), (ca 13, .long)] (va_A [(ad 1, eS ad pk pp bw bs), (ad 2, eT ad (nI cn) due lon), (ad 7, eI 81 (ca 7) wei), (ad 8, eL 32 (ca 8) ser), (ad 13, eL 81 (ca 13) pla)] sz) [(ad 1, eS ad pk pp ((m_ext m_pop cn pla wei ser d op fr wt tk (bw, bs)).1) ((m_ext m_pop cn pla wei ser d op fr wt tk (bw, bs)).2)), (ad 2, eT ad (nI cn) due lon), (ad 7, eI 81 (ca 7) wei), (ad 8, eL 32 (ca 8) ser), (ad 13, eL 81 (ca 13) pla)]) 0 0 (va_A [(ad 1, eS ad pk pp bw bs), (ad 2, eT ad (nI cn) due lon), (ad 7, eI 81 (ca 7) wei), (ad 8, eL 32 (ca 8) ser), (ad 13, eL 81 (ca 13) pla)] sz) := by
  intro d
  induction d with
  | zero => intro pk pp bw bs cn hc due lon wei ser pla dp op fr wt tk sz h; exact c_extend_0 l dC dI ad ca pk pp bw bs cn hc due lon wei ser pla dp op fr wt tk (by omega) sz
  | succ d ih => intro pk pp bw bs cn hc due lon wei ser pla dp op fr wt tk sz h; exact c_extend_s l dC dI ad ca pk pp bw bs cn hc due lon wei ser pla dp op fr wt tk d h ih sz
end
section
set_option maxHeartbeats 4000000 in
set_option maxRecDepth 100000 in
theorem c_findLeast (l : Launch) (dC : Nat → ClassId) (dI : Nat → Nat → Nat) (ad : Nat → Nat) (ca : Nat → ClassId) (pk : Int32) (pp : Int32) (bw : Int32) (bs : Int64) (cn : Nat) (hc : cn ≤ 63) (due : Int64) (lon : Int64) (pic : Nat → Int32) (wei : Nat → Int32) (ser : Nat → Int64) (siz : Nat → Int32) (pla : Nat → Int64) (sz : Nat) : Met l y_S_findLeast w_S_findLeast ({ frames := 36, cells := 0, slots := 0, locals := 1300 }) (kw_P [.ref (ad 1)] sz (dC, dI) vC [(ad 1, eS ad pk pp bw bs), (ad 2, eT ad (nI cn) due lon), (ad 6, eI 81 (ca 6) pic), (ad 7, eI 81 (ca 7) wei), (ad 8, eL 32 (ca 8) ser), (ad 11, eI 81 (ca 11) siz), (ad 13, eL 81 (ca 13) pla)] [(ca 6, .int), (ca 7, .int), (ca 8, .long), (ca 11, .int), (ca 13, .long)]) (kw_Qv (dC, dI) vC [(ca 6, .int), (ca 7, .int), (ca 8, .long), (ca 11, .int), (ca 13, .long)] (va_A [(ad 1, eS ad pk pp bw bs), (ad 2, eT ad (nI cn) due lon), (ad 6, eI 81 (ca 6) pic), (ad 7, eI 81 (ca 7) wei), (ad 8, eL 32 (ca 8) ser), (ad 11, eI 81 (ca 11) siz), (ad 13, eL 81 (ca 13) pla)] sz) [(ad 1, eS ad (nI ((fo (mc_lbf (m_ext m_pop cn pla (fo (mc_wef siz) cn wei) (fo (mc_sef pla cn) 32 ser) 32 due (zo cn - 1) 0 0 (1000000, 0)).2 siz) cn (pic, 0, 0)).2.1)) ((fo (mc_lbf (m_ext m_pop cn pla (fo (mc_wef siz) cn wei) (fo (mc_sef pla cn) 32 ser) 32 due (zo cn - 1) 0 0 (1000000, 0)).2 siz) cn (pic, 0, 0)).2.2) ((m_ext m_pop cn pla (fo (mc_wef siz) cn wei) (fo (mc_sef pla cn) 32 ser) 32 due (zo cn - 1) 0 0 (1000000, 0)).1) ((m_ext m_pop cn pla (fo (mc_wef siz) cn wei) (fo (mc_sef pla cn) 32 ser) 32 due (zo cn - 1) 0 0 (1000000, 0)).2)), (ad 2, eT ad (nI cn) due lon), (ad 6, eI 81 (ca 6) ((fo (mc_lbf (m_ext m_pop cn pla (fo (mc_wef siz) cn wei) (fo (mc_sef pla cn) 32 ser) 32 due (zo cn - 1) 0 0 (1000000, 0)).2 siz) cn (pic, 0, 0)).1)), (ad 7, eI 81 (ca 7) (fo (mc_wef siz) cn wei)), (ad 8, eL 32 (ca 8) (fo (mc_sef pla cn) 32 ser)), (ad 11, eI 81 (ca 11) siz), (ad 13, eL 81 (ca 13) pla)]) 0 0 (va_A [(ad 1, eS ad pk pp bw bs), (ad 2, eT ad (nI cn) due lon), (ad 6, eI 81 (ca 6) pic), (ad 7, eI 81 (ca 7) wei), (ad 8, eL 32 (ca 8) ser), (ad 11, eI 81 (ca 11) siz), (ad 13, eL 81 (ca 13) pla)] sz) := by
  refine Met.ofW (cc := b_S_findLeast) (maxL := 2) (ret := none) (by decide) rfl ?_
  intro p e s m args below meth c s₁ B hml hv
  obtain ⟨rfl, hsz, hP, hK, hD0⟩ := hv
  have hx := B.exec
  have hb := B.bytes
  have hr := B.returns
  have hts := atoms_spec (ws := w_S_findLeast) B.pre
  have hlocks := B.notSynchronized
  have hown : s.vm.findClass R_S = some m.cls := findClass_of_methodNamed B.named
  subst hsz
  have hD := hD0.self (sz := s.heap.size)
  generalize hAe : va_A [(ad 1, eS ad pk pp bw bs), (ad 2, eT ad (nI cn) due lon), (ad 6, eI 81 (ca 6) pic), (ad 7, eI 81 (ca 7) wei), (ad 8, eL 32 (ca 8) ser), (ad 11, eI 81 (ca 11) siz), (ad 13, eL 81 (ca 13) pla)] s.heap.size = A at hD ⊢
  have hA : ∀ q : Nat, s.heap.size ≤ q → A q := fun q h => by rw [← hAe]; exact Or.inr h
  have hS : va_S A s.heap s.heap [] := va_S.rf
  have hP : va_P (dC, dI) vC [(ad 1, eS ad pk pp bw bs), (ad 2, eT ad (nI cn) due lon), (ad 6, eI 81 (ca 6) pic), (ad 7, eI 81 (ca 7) wei), (ad 8, eL 32 (ca 8) ser), (ad 11, eI 81 (ca 11) siz), (ad 13, eL 81 (ca 13) pla)] s.heap := hP
  have hl := lv_entry ([.ref (ad 1)]) (n := 2) (Nat.le_of_ble_eq_true rfl)
  rw [lg_entry_eq]
  generalize (lg_sl ([.ref (ad 1)]) ++ List.replicate (2 - (lg_sl ([.ref (ad 1)])).length) Slot.unset).toArray = ls at hl ⊢
  have hl : lv_has ls 2 [(0, .ref (ad 1))] := hl
  refine lv_iconst (v := 0) hx hb d_S_findLeast_0 (by decide) ?_
  refine lv_istore_n (lv' := [(1, .int 0), (0, .ref (ad 1))]) hx hb d_S_findLeast_1 rfl hl (by decide) rfl (fun ls hl => ?_)
  refine k_loopH (fun iv H locs ls => lv_has ls 2 [(0, .ref (ad 1)), (1, .int (nI iv))] ∧ va_P (dC, dI) vC [(ad 1, eS ad pk pp bw bs), (ad 2, eT ad (nI cn) due lon), (ad 6, eI 81 (ca 6) pic), (ad 7, eI 81 (ca 7) (fo (mc_wef siz) iv wei)), (ad 8, eL 32 (ca 8) ser), (ad 11, eI 81 (ca 11) siz), (ad 13, eL 81 (ca 13) pla)] H ∧ va_D A [(ad 1, eS ad pk pp bw bs), (ad 2, eT ad (nI cn) due lon), (ad 6, eI 81 (ca 6) pic), (ad 7, eI 81 (ca 7) (fo (mc_wef siz) iv wei)), (ad 8, eL 32 (ca 8) ser), (ad 11, eI 81 (ca 11) siz), (ad 13, eL 81 (ca 13) pla)] ∧ va_S A s.heap H locs ∧ True) cn ?_ 0 _ _ _ (Nat.zero_le _) ?_
  · intro iv H locs ls hiiv hI ihiv
    obtain ⟨hl, hP, hD, hS, -⟩ := hI
    refine lv_iload_n hx hb d_S_findLeast_2 rfl (lv_at hl 1 rfl) ?_
    refine lv_aload_n hx hb d_S_findLeast_3 rfl (lv_at hl 0 rfl) ?_
    refine va_get (D := (dC, dI)) (ci := 2) (v := .ref (ad 2)) (C := R_S) (T := F_S) (N := 8) hx hb hts (hin_of in_S) hown hK hP 0 rfl rfl 3 (by decide) (hw_of hts mw_144) (fun _ h9 => h9) rfl d_S_findLeast_4 ?_
    refine va_get (D := (dC, dI)) (ci := 0) (v := .int (nI cn)) (C := R_T) (T := F_T) (N := 10) hx hb hts (hin_of in_T) hown hK hP 1 rfl rfl 5 (by decide) (hw_of hts mw_109) (fun _ h9 => h9) rfl d_S_findLeast_7 ?_
    refine k_ge (a := iv) (b := cn) (tgt := 38) hx hb rfl rfl (by omega) (by omega) d_S_findLeast_10 (by decide) (fun c_10 => ?_) (fun c_10 => ?_)
    · obtain rfl : cn = iv := by omega
      refine lv_iconst (v := 0) hx hb d_S_findLeast_38 (by decide) ?_
      refine lv_istore_n (lv' := [(1, .int 0), (0, .ref (ad 1))]) hx hb d_S_findLeast_39 rfl hl (by decide) rfl (fun ls hl => ?_)
      refine k_loopH (fun qv H locs ls => lv_has ls 2 [(0, .ref (ad 1)), (1, .int (nI qv))] ∧ va_P (dC, dI) vC [(ad 1, eS ad pk pp bw bs), (ad 2, eT ad (nI cn) due lon), (ad 6, eI 81 (ca 6) pic), (ad 7, eI 81 (ca 7) (fo (mc_wef siz) cn wei)), (ad 8, eL 32 (ca 8) (fo (mc_sef pla cn) qv ser)), (ad 11, eI 81 (ca 11) siz), (ad 13, eL 81 (ca 13) pla)] H ∧ va_D A [(ad 1, eS ad pk pp bw bs), (ad 2, eT ad (nI cn) due lon), (ad 6, eI 81 (ca 6) pic), (ad 7, eI 81 (ca 7) (fo (mc_wef siz) cn wei)), (ad 8, eL 32 (ca 8) (fo (mc_sef pla cn) qv ser)), (ad 11, eI 81 (ca 11) siz), (ad 13, eL 81 (ca 13) pla)] ∧ va_S A s.heap H locs ∧ True) 32 ?_ 0 _ _ _ (Nat.zero_le _) ?_
      · intro qv H locs ls hiqv hI ihqv
        obtain ⟨hl, hP, hD, hS, -⟩ := hI
        refine lv_iload_n hx hb d_S_findLeast_40 rfl (lv_at hl 1 rfl) ?_
        refine lv_bipush (v := 32) hx hb d_S_findLeast_41 (by decide) ?_
        refine k_ge (a := qv) (b := 32) (tgt := 63) hx hb rfl rfl (by omega) (by omega) d_S_findLeast_43 (by decide) (fun c_43 => ?_) (fun c_43 => ?_)
        · obtain rfl : 32 = qv := by omega
          refine lv_aload_n hx hb d_S_findLeast_63 rfl (lv_at hl 0 rfl) ?_
          refine lv_ldc hx hb hown (hw_of hts mw_259) d_S_findLeast_64 ?_
          refine va_put (D := (dC, dI)) (ci := 2) (v := .int 1000000) (ty := .int) (C := R_S) (T := F_S) (N := 8) hx hb hts (hin_of in_S) ft_S tk_S nm_S hown hK hP hD hS 0 rfl rfl 6 (by decide) (hw_of hts mw_148) (fun _ h9 => h9) rfl (by decide +kernel) rfl rfl (Nat.le_of_ble_eq_true rfl) d_S_findLeast_66 (fun H locs hP hD hS => ?_)
          have hP : va_P (dC, dI) vC [(ad 1, eS ad pk pp 1000000 bs), (ad 2, eT ad (nI cn) due lon), (ad 6, eI 81 (ca 6) pic), (ad 7, eI 81 (ca 7) (fo (mc_wef siz) cn wei)), (ad 8, eL 32 (ca 8) (fo (mc_sef pla cn) 32 ser)), (ad 11, eI 81 (ca 11) siz), (ad 13, eL 81 (ca 13) pla)] H := hP
          have hD : va_D A [(ad 1, eS ad pk pp 1000000 bs), (ad 2, eT ad (nI cn) due lon), (ad 6, eI 81 (ca 6) pic), (ad 7, eI 81 (ca 7) (fo (mc_wef siz) cn wei)), (ad 8, eL 32 (ca 8) (fo (mc_sef pla cn) 32 ser)), (ad 11, eI 81 (ca 11) siz), (ad 13, eL 81 (ca 13) pla)] := hD
          refine lv_aload_n hx hb d_S_findLeast_69 rfl (lv_at hl 0 rfl) ?_
          refine lv_lconst (v := 0) hx hb d_S_findLeast_70 rfl ?_
          refine va_put (D := (dC, dI)) (ci := 2) (v := .long 0) (ty := .long) (C := R_S) (T := F_S) (N := 8) hx hb hts (hin_of in_S) ft_S tk_S nm_S hown hK hP hD hS 0 rfl rfl 7 (by decide) (hw_of hts mw_149) (fun _ h9 => h9) rfl (by decide +kernel) rfl rfl (Nat.le_of_ble_eq_true rfl) d_S_findLeast_71 (fun H locs hP hD hS => ?_)
          have hP : va_P (dC, dI) vC [(ad 1, eS ad pk pp 1000000 0), (ad 2, eT ad (nI cn) due lon), (ad 6, eI 81 (ca 6) pic), (ad 7, eI 81 (ca 7) (fo (mc_wef siz) cn wei)), (ad 8, eL 32 (ca 8) (fo (mc_sef pla cn) 32 ser)), (ad 11, eI 81 (ca 11) siz), (ad 13, eL 81 (ca 13) pla)] H := hP
          have hD : va_D A [(ad 1, eS ad pk pp 1000000 0), (ad 2, eT ad (nI cn) due lon), (ad 6, eI 81 (ca 6) pic), (ad 7, eI 81 (ca 7) (fo (mc_wef siz) cn wei)), (ad 8, eL 32 (ca 8) (fo (mc_sef pla cn) 32 ser)), (ad 11, eI 81 (ca 11) siz), (ad 13, eL 81 (ca 13) pla)] := hD
          refine lv_aload_n hx hb d_S_findLeast_74 rfl (lv_at hl 0 rfl) ?_
          refine lv_iconst (v := 0) hx hb d_S_findLeast_75 (by decide) ?_
          refine lv_aload_n hx hb d_S_findLeast_76 rfl (lv_at hl 0 rfl) ?_
          refine va_get (D := (dC, dI)) (ci := 2) (v := .ref (ad 2)) (C := R_S) (T := F_S) (N := 8) hx hb hts (hin_of in_S) hown hK hP 0 rfl rfl 3 (by decide) (hw_of hts mw_144) (fun _ h9 => h9) rfl d_S_findLeast_77 ?_
          refine va_get (D := (dC, dI)) (ci := 0) (v := .long due) (C := R_T) (T := F_T) (N := 10) hx hb hts (hin_of in_T) hown hK hP 1 rfl rfl 6 (by decide) (hw_of hts mw_113) (fun _ h9 => h9) rfl d_S_findLeast_80 ?_
          refine lv_lconst (v := 1) hx hb d_S_findLeast_83 rfl ?_
          refine lv_aload_n hx hb d_S_findLeast_84 rfl (lv_at hl 0 rfl) ?_
          refine va_get (D := (dC, dI)) (ci := 2) (v := .ref (ad 2)) (C := R_S) (T := F_S) (N := 8) hx hb hts (hin_of in_S) hown hK hP 0 rfl rfl 3 (by decide) (hw_of hts mw_144) (fun _ h9 => h9) rfl d_S_findLeast_85 ?_
          refine va_get (D := (dC, dI)) (ci := 0) (v := .int (nI cn)) (C := R_T) (T := F_T) (N := 10) hx hb hts (hin_of in_T) hown hK hP 1 rfl rfl 5 (by decide) (hw_of hts mw_109) (fun _ h9 => h9) rfl d_S_findLeast_88 ?_
          refine lv_lshl (v := zo cn) hx hb d_S_findLeast_91 rfl ?_
          refine lv_lconst (v := 1) hx hb d_S_findLeast_92 rfl ?_
          refine lv_lsub hx hb d_S_findLeast_93 ?_
          refine lv_iconst (v := 0) hx hb d_S_findLeast_94 (by decide) ?_
          refine lv_lconst (v := 0) hx hb d_S_findLeast_95 rfl ?_
          have hPc := hP.sub (ws' := [(ad 1, eS ad pk pp 1000000 0), (ad 2, eT ad (nI cn) due lon), (ad 7, eI 81 (ca 7) (fo (mc_wef siz) cn wei)), (ad 8, eL 32 (ca 8) (fo (mc_sef pla cn) 32 ser)), (ad 13, eL 81 (ca 13) pla)]) [0, 1, 3, 4, 6] rfl
          have hDc := hD.sub (ws' := [(ad 1, eS ad pk pp 1000000 0), (ad 2, eT ad (nI cn) due lon), (ad 7, eI 81 (ca 7) (fo (mc_wef siz) cn wei)), (ad 8, eL 32 (ca 8) (fo (mc_sef pla cn) 32 ser)), (ad 13, eL 81 (ca 13) pla)]) [0, 1, 3, 4, 6] (by decide) rfl
          have hKc := hK.sub (tys' := [(ca 7, .int), (ca 8, .long), (ca 13, .long)]) [1, 2, 4] rfl
          refine kw_callv (wr := [(ad 6, eI 81 (ca 6) pic), (ad 11, eI 81 (ca 11) siz)]) (wf := [(ad 1, eS ad pk pp ((m_ext m_pop cn pla (fo (mc_wef siz) cn wei) (fo (mc_sef pla cn) 32 ser) 32 due ((zo cn) - 1) 0 0 (1000000, 0)).1) ((m_ext m_pop cn pla (fo (mc_wef siz) cn wei) (fo (mc_sef pla cn) 32 ser) 32 due ((zo cn) - 1) 0 0 (1000000, 0)).2)), (ad 2, eT ad (nI cn) due lon), (ad 7, eI 81 (ca 7) (fo (mc_wef siz) cn wei)), (ad 8, eL 32 (ca 8) (fo (mc_sef pla cn) 32 ser)), (ad 13, eL 81 (ca 13) pla)]) (va_runV (As := [.int 0, .long due, .long ((zo cn) - 1), .int 0, .long 0]) (rest := []) ⟨hx, hb, hml, hown, hts⟩ (c_extend l dC dI ad ca 32 pk pp 1000000 0 cn hc due lon (fo (mc_wef siz) cn wei) (fo (mc_sef pla cn) 32 ser) pla 0 due ((zo cn) - 1) 0 0 _ rfl) (cwV 5 hts (gd_V mw_260 mw_262 mw_10 mw_41 mw_263) rfl rfl rfl (by decide +kernel) ⟨Nat.le_of_ble_eq_true rfl, Nat.le_of_ble_eq_true rfl⟩) (kw_V (q0 := 0) (ci := 2) hKc hPc hDc rfl rfl) rfl rfl hl.1 rfl (lv_room (Nat.le_of_ble_eq_true rfl)) d_S_findLeast_96 ⟨Nat.zero_le _, Nat.zero_le _⟩) hP hD hS hA [0, 1, 3, 4, 6] [2, 5] rfl rfl (by decide) (by decide) (fun H locs hP hD hS => ?_)
          have hP : va_P (dC, dI) vC [(ad 6, eI 81 (ca 6) pic), (ad 11, eI 81 (ca 11) siz), (ad 1, eS ad pk pp ((m_ext m_pop cn pla (fo (mc_wef siz) cn wei) (fo (mc_sef pla cn) 32 ser) 32 due ((zo cn) - 1) 0 0 (1000000, 0)).1) ((m_ext m_pop cn pla (fo (mc_wef siz) cn wei) (fo (mc_sef pla cn) 32 ser) 32 due ((zo cn) - 1) 0 0 (1000000, 0)).2)), (ad 2, eT ad (nI cn) due lon), (ad 7, eI 81 (ca 7) (fo (mc_wef siz) cn wei)), (ad 8, eL 32 (ca 8) (fo (mc_sef pla cn) 32 ser)), (ad 13, eL 81 (ca 13) pla)] H := hP
          have hD : va_D A [(ad 6, eI 81 (ca 6) pic), (ad 11, eI 81 (ca 11) siz), (ad 1, eS ad pk pp ((m_ext m_pop cn pla (fo (mc_wef siz) cn wei) (fo (mc_sef pla cn) 32 ser) 32 due ((zo cn) - 1) 0 0 (1000000, 0)).1) ((m_ext m_pop cn pla (fo (mc_wef siz) cn wei) (fo (mc_sef pla cn) 32 ser) 32 due ((zo cn) - 1) 0 0 (1000000, 0)).2)), (ad 2, eT ad (nI cn) due lon), (ad 7, eI 81 (ca 7) (fo (mc_wef siz) cn wei)), (ad 8, eL 32 (ca 8) (fo (mc_sef pla cn) 32 ser)), (ad 13, eL 81 (ca 13) pla)] := hD
          refine lv_aload_n hx hb d_S_findLeast_99 rfl (lv_at hl 0 rfl) ?_
          have hPc := hP.sub (ws' := [(ad 1, eS ad pk pp ((m_ext m_pop cn pla (fo (mc_wef siz) cn wei) (fo (mc_sef pla cn) 32 ser) 32 due ((zo cn) - 1) 0 0 (1000000, 0)).1) ((m_ext m_pop cn pla (fo (mc_wef siz) cn wei) (fo (mc_sef pla cn) 32 ser) 32 due ((zo cn) - 1) 0 0 (1000000, 0)).2)), (ad 2, eT ad (nI cn) due lon), (ad 6, eI 81 (ca 6) pic), (ad 11, eI 81 (ca 11) siz)]) [2, 3, 0, 1] rfl
          have hDc := hD.sub (ws' := [(ad 1, eS ad pk pp ((m_ext m_pop cn pla (fo (mc_wef siz) cn wei) (fo (mc_sef pla cn) 32 ser) 32 due ((zo cn) - 1) 0 0 (1000000, 0)).1) ((m_ext m_pop cn pla (fo (mc_wef siz) cn wei) (fo (mc_sef pla cn) 32 ser) 32 due ((zo cn) - 1) 0 0 (1000000, 0)).2)), (ad 2, eT ad (nI cn) due lon), (ad 6, eI 81 (ca 6) pic), (ad 11, eI 81 (ca 11) siz)]) [2, 3, 0, 1] (by decide) rfl
          have hKc := hK.sub (tys' := [(ca 6, .int), (ca 11, .int)]) [0, 3] rfl
          refine kw_callv (wr := [(ad 7, eI 81 (ca 7) (fo (mc_wef siz) cn wei)), (ad 8, eL 32 (ca 8) (fo (mc_sef pla cn) 32 ser)), (ad 13, eL 81 (ca 13) pla)]) (wf := [(ad 1, eS ad (nI ((fo (mc_lbf ((m_ext m_pop cn pla (fo (mc_wef siz) cn wei) (fo (mc_sef pla cn) 32 ser) 32 due ((zo cn) - 1) 0 0 (1000000, 0)).2) siz) cn (pic, 0, 0)).2.1)) ((fo (mc_lbf ((m_ext m_pop cn pla (fo (mc_wef siz) cn wei) (fo (mc_sef pla cn) 32 ser) 32 due ((zo cn) - 1) 0 0 (1000000, 0)).2) siz) cn (pic, 0, 0)).2.2) ((m_ext m_pop cn pla (fo (mc_wef siz) cn wei) (fo (mc_sef pla cn) 32 ser) 32 due ((zo cn) - 1) 0 0 (1000000, 0)).1) ((m_ext m_pop cn pla (fo (mc_wef siz) cn wei) (fo (mc_sef pla cn) 32 ser) 32 due ((zo cn) - 1) 0 0 (1000000, 0)).2)), (ad 2, eT ad (nI cn) due lon), (ad 6, eI 81 (ca 6) ((fo (mc_lbf ((m_ext m_pop cn pla (fo (mc_wef siz) cn wei) (fo (mc_sef pla cn) 32 ser) 32 due ((zo cn) - 1) 0 0 (1000000, 0)).2) siz) cn (pic, 0, 0)).1)), (ad 11, eI 81 (ca 11) siz)]) (va_runV (As := []) (rest := []) ⟨hx, hb, hml, hown, hts⟩ (c_listBest l dC dI ad ca pk pp ((m_ext m_pop cn pla (fo (mc_wef siz) cn wei) (fo (mc_sef pla cn) 32 ser) 32 due ((zo cn) - 1) 0 0 (1000000, 0)).1) ((m_ext m_pop cn pla (fo (mc_wef siz) cn wei) (fo (mc_sef pla cn) 32 ser) 32 due ((zo cn) - 1) 0 0 (1000000, 0)).2) cn hc due lon pic siz _) (cwV 0 hts (gd_V mw_302 mw_304 mw_18 mw_41 mw_305) rfl rfl rfl (by decide +kernel) ⟨Nat.le_of_ble_eq_true rfl, Nat.le_of_ble_eq_true rfl⟩) (kw_V (q0 := 0) (ci := 2) hKc hPc hDc rfl rfl) rfl rfl hl.1 rfl (lv_room (Nat.le_of_ble_eq_true rfl)) d_S_findLeast_100 ⟨Nat.zero_le _, Nat.zero_le _⟩) hP hD hS hA [2, 3, 0, 1] [4, 5, 6] rfl rfl (by decide) (by decide) (fun H locs hP hD hS => ?_)
          have hP : va_P (dC, dI) vC [(ad 7, eI 81 (ca 7) (fo (mc_wef siz) cn wei)), (ad 8, eL 32 (ca 8) (fo (mc_sef pla cn) 32 ser)), (ad 13, eL 81 (ca 13) pla), (ad 1, eS ad (nI ((fo (mc_lbf ((m_ext m_pop cn pla (fo (mc_wef siz) cn wei) (fo (mc_sef pla cn) 32 ser) 32 due ((zo cn) - 1) 0 0 (1000000, 0)).2) siz) cn (pic, 0, 0)).2.1)) ((fo (mc_lbf ((m_ext m_pop cn pla (fo (mc_wef siz) cn wei) (fo (mc_sef pla cn) 32 ser) 32 due ((zo cn) - 1) 0 0 (1000000, 0)).2) siz) cn (pic, 0, 0)).2.2) ((m_ext m_pop cn pla (fo (mc_wef siz) cn wei) (fo (mc_sef pla cn) 32 ser) 32 due ((zo cn) - 1) 0 0 (1000000, 0)).1) ((m_ext m_pop cn pla (fo (mc_wef siz) cn wei) (fo (mc_sef pla cn) 32 ser) 32 due ((zo cn) - 1) 0 0 (1000000, 0)).2)), (ad 2, eT ad (nI cn) due lon), (ad 6, eI 81 (ca 6) ((fo (mc_lbf ((m_ext m_pop cn pla (fo (mc_wef siz) cn wei) (fo (mc_sef pla cn) 32 ser) 32 due ((zo cn) - 1) 0 0 (1000000, 0)).2) siz) cn (pic, 0, 0)).1)), (ad 11, eI 81 (ca 11) siz)] H := hP
          have hD : va_D A [(ad 7, eI 81 (ca 7) (fo (mc_wef siz) cn wei)), (ad 8, eL 32 (ca 8) (fo (mc_sef pla cn) 32 ser)), (ad 13, eL 81 (ca 13) pla), (ad 1, eS ad (nI ((fo (mc_lbf ((m_ext m_pop cn pla (fo (mc_wef siz) cn wei) (fo (mc_sef pla cn) 32 ser) 32 due ((zo cn) - 1) 0 0 (1000000, 0)).2) siz) cn (pic, 0, 0)).2.1)) ((fo (mc_lbf ((m_ext m_pop cn pla (fo (mc_wef siz) cn wei) (fo (mc_sef pla cn) 32 ser) 32 due ((zo cn) - 1) 0 0 (1000000, 0)).2) siz) cn (pic, 0, 0)).2.2) ((m_ext m_pop cn pla (fo (mc_wef siz) cn wei) (fo (mc_sef pla cn) 32 ser) 32 due ((zo cn) - 1) 0 0 (1000000, 0)).1) ((m_ext m_pop cn pla (fo (mc_wef siz) cn wei) (fo (mc_sef pla cn) 32 ser) 32 due ((zo cn) - 1) 0 0 (1000000, 0)).2)), (ad 2, eT ad (nI cn) due lon), (ad 6, eI 81 (ca 6) ((fo (mc_lbf ((m_ext m_pop cn pla (fo (mc_wef siz) cn wei) (fo (mc_sef pla cn) 32 ser) 32 due ((zo cn) - 1) 0 0 (1000000, 0)).2) siz) cn (pic, 0, 0)).1)), (ad 11, eI 81 (ca 11) siz)] := hD
          have e_1 : nI ((fo (mc_lbf (m_ext m_pop cn pla (fo (mc_wef siz) cn wei) (fo (mc_sef pla cn) 32 ser) 32 due (zo cn - 1) 0 0 (1000000, 0)).2 siz) cn (pic, 0, 0)).2.1) = nI ((fo (mc_lbf ((m_ext m_pop cn pla (fo (mc_wef siz) cn wei) (fo (mc_sef pla cn) 32 ser) 32 due ((zo cn) - 1) 0 0 (1000000, 0)).2) siz) cn (pic, 0, 0)).2.1) := rfl
          have e_2 : (fo (mc_lbf (m_ext m_pop cn pla (fo (mc_wef siz) cn wei) (fo (mc_sef pla cn) 32 ser) 32 due (zo cn - 1) 0 0 (1000000, 0)).2 siz) cn (pic, 0, 0)).2.2 = (fo (mc_lbf ((m_ext m_pop cn pla (fo (mc_wef siz) cn wei) (fo (mc_sef pla cn) 32 ser) 32 due ((zo cn) - 1) 0 0 (1000000, 0)).2) siz) cn (pic, 0, 0)).2.2 := rfl
          have e_3 : (m_ext m_pop cn pla (fo (mc_wef siz) cn wei) (fo (mc_sef pla cn) 32 ser) 32 due (zo cn - 1) 0 0 (1000000, 0)).1 = (m_ext m_pop cn pla (fo (mc_wef siz) cn wei) (fo (mc_sef pla cn) 32 ser) 32 due ((zo cn) - 1) 0 0 (1000000, 0)).1 := rfl
          have e_4 : (m_ext m_pop cn pla (fo (mc_wef siz) cn wei) (fo (mc_sef pla cn) 32 ser) 32 due (zo cn - 1) 0 0 (1000000, 0)).2 = (m_ext m_pop cn pla (fo (mc_wef siz) cn wei) (fo (mc_sef pla cn) 32 ser) 32 due ((zo cn) - 1) 0 0 (1000000, 0)).2 := rfl
          have e_5 : (fo (mc_lbf (m_ext m_pop cn pla (fo (mc_wef siz) cn wei) (fo (mc_sef pla cn) 32 ser) 32 due (zo cn - 1) 0 0 (1000000, 0)).2 siz) cn (pic, 0, 0)).1 = (fo (mc_lbf ((m_ext m_pop cn pla (fo (mc_wef siz) cn wei) (fo (mc_sef pla cn) 32 ser) 32 due ((zo cn) - 1) 0 0 (1000000, 0)).2) siz) cn (pic, 0, 0)).1 := rfl
          exact W.vret hx hb hr (fun t ht hW => by (try rw [e_1]); (try rw [e_2]); (try rw [e_3]); (try rw [e_4]); (try rw [e_5]); exact kw_endv hP hD hK hS [3, 4, 5, 0, 1, 6, 2] rfl (by decide) rfl ht hW.alike) hS.2.2 d_S_findLeast_103
        · refine lv_aload_n hx hb d_S_findLeast_46 rfl (lv_at hl 0 rfl) ?_
          refine va_get (D := (dC, dI)) (ci := 2) (v := .ref (ad 8)) (C := R_S) (T := F_S) (N := 8) hx hb hts (hin_of in_S) hown hK hP 0 rfl rfl 5 (by decide) (hw_of hts mw_147) (fun _ h9 => h9) rfl d_S_findLeast_47 ?_
          refine lv_iload_n hx hb d_S_findLeast_50 rfl (lv_at hl 1 rfl) ?_
          refine lv_aload_n hx hb d_S_findLeast_51 rfl (lv_at hl 0 rfl) ?_
          refine lv_iload_n hx hb d_S_findLeast_52 rfl (lv_at hl 1 rfl) ?_
          have hPc := hP.sub (ws' := [(ad 1, eS ad pk pp bw bs), (ad 2, eT ad (nI cn) due lon), (ad 13, eL 81 (ca 13) pla)]) [0, 1, 6] rfl
          have hKc := hK.sub (tys' := [(ca 13, .long)]) [4] rfl
          refine vp_callSl (W.runV (As := [.int (nI qv)]) (rest := [.int (nI qv), .ref (ad 8)]) ⟨hx, hb, hml, hown, hts⟩ (c_serversOf l dC dI ad ca pk pp bw bs cn hc due lon pla qv (by omega)) (cwV 1 hts (gd_V mw_255 mw_257 mw_9 mw_41 mw_258) rfl rfl rfl (by decide +kernel) ⟨Nat.le_of_ble_eq_true rfl, Nat.le_of_ble_eq_true rfl⟩) (kr_V (q0 := 0) (ci := 2) hKc hPc rfl rfl) rfl rfl hl.1 rfl (lv_room (Nat.le_of_ble_eq_true rfl)) d_S_findLeast_53 ⟨Nat.zero_le _, Nat.zero_le _⟩) (fun r hq => ?_)
          subst hq
          refine k_last (k := qv) hx hb hK hP hD hS 4 2 rfl rfl rfl (by omega) (by decide) d_S_findLeast_56 (fun H locs hP hD hS => ?_)
          have hP : va_P (dC, dI) vC [(ad 1, eS ad pk pp bw bs), (ad 2, eT ad (nI cn) due lon), (ad 6, eI 81 (ca 6) pic), (ad 7, eI 81 (ca 7) (fo (mc_wef siz) cn wei)), (ad 8, eL 32 (ca 8) (vp_updL (fo (mc_sef pla cn) qv ser) qv (fo (mc_svf pla qv) cn 0))), (ad 11, eI 81 (ca 11) siz), (ad 13, eL 81 (ca 13) pla)] H := hP
          have hD : va_D A [(ad 1, eS ad pk pp bw bs), (ad 2, eT ad (nI cn) due lon), (ad 6, eI 81 (ca 6) pic), (ad 7, eI 81 (ca 7) (fo (mc_wef siz) cn wei)), (ad 8, eL 32 (ca 8) (vp_updL (fo (mc_sef pla cn) qv ser) qv (fo (mc_svf pla qv) cn 0))), (ad 11, eI 81 (ca 11) siz), (ad 13, eL 81 (ca 13) pla)] := hD
          refine lv_iinc (v := nI (qv + 1)) (lv' := [(1, .int (nI (qv + 1))), (0, .ref (ad 1))]) hx hb d_S_findLeast_57 hl (k := 1) rfl (k_inc _) (by decide) rfl (fun ls hl => ?_)
          refine lv_goto (tgt := 40) hx hb d_S_findLeast_60 (by decide) ?_
          refine ihqv _ _ _ (by omega) ?_
          have e_6 : (fo (mc_sef pla cn) (qv + 1) ser) = vp_updL (fo (mc_sef pla cn) qv ser) qv (fo (mc_svf pla qv) cn 0) := rfl
          exact ⟨by (try rw [e_6]); exact lv_sub hl [1, 0] rfl, by (try rw [e_6]); exact hP, by (try rw [e_6]); exact hD, hS, trivial⟩
      · have hdone : True := trivial
        have e_7 : nI 0 = 0 := rfl
        have e_8 : (fo (mc_sef pla cn) 0 ser) = ser := rfl
        exact ⟨by (try rw [e_7]); (try rw [e_8]); exact lv_sub hl [1, 0] rfl, by (try rw [e_7]); (try rw [e_8]); exact hP, by (try rw [e_7]); (try rw [e_8]); exact hD, hS, trivial⟩
    · refine lv_aload_n hx hb d_S_findLeast_13 rfl (lv_at hl 0 rfl) ?_
      refine va_get (D := (dC, dI)) (ci := 2) (v := .ref (ad 7)) (C := R_S) (T := F_S) (N := 8) hx hb hts (hin_of in_S) hown hK hP 0 rfl rfl 4 (by decide) (hw_of hts mw_146) (fun _ h9 => h9) rfl d_S_findLeast_14 ?_
      refine lv_iload_n hx hb d_S_findLeast_17 rfl (lv_at hl 1 rfl) ?_
      refine lv_sipush (v := 1000) hx hb d_S_findLeast_18 (by decide) ?_
      refine lv_aload_n hx hb d_S_findLeast_21 rfl (lv_at hl 0 rfl) ?_
      refine va_get (D := (dC, dI)) (ci := 2) (v := .ref (ad 2)) (C := R_S) (T := F_S) (N := 8) hx hb hts (hin_of in_S) hown hK hP 0 rfl rfl 3 (by decide) (hw_of hts mw_144) (fun _ h9 => h9) rfl d_S_findLeast_22 ?_
      refine va_get (D := (dC, dI)) (ci := 0) (v := .ref (ad 11)) (C := R_T) (T := F_T) (N := 10) hx hb hts (hin_of in_T) hown hK hP 1 rfl rfl 2 (by decide) (hw_of hts mw_102) (fun _ h9 => h9) rfl d_S_findLeast_25 ?_
      refine lv_iload_n hx hb d_S_findLeast_28 rfl (lv_at hl 1 rfl) ?_
      refine k_iald (k := iv) hx hb hK hP 5 3 rfl rfl rfl (by omega) (by decide) d_S_findLeast_29 ?_
      refine lv_iadd hx hb d_S_findLeast_30 ?_
      refine k_iast (k := iv) hx hb hK hP hD hS 3 1 rfl rfl rfl (by omega) (by decide) d_S_findLeast_31 (fun H locs hP hD hS => ?_)
      have hP : va_P (dC, dI) vC [(ad 1, eS ad pk pp bw bs), (ad 2, eT ad (nI cn) due lon), (ad 6, eI 81 (ca 6) pic), (ad 7, eI 81 (ca 7) (upd (fo (mc_wef siz) iv wei) iv (1000 + (siz iv)))), (ad 8, eL 32 (ca 8) ser), (ad 11, eI 81 (ca 11) siz), (ad 13, eL 81 (ca 13) pla)] H := hP
      have hD : va_D A [(ad 1, eS ad pk pp bw bs), (ad 2, eT ad (nI cn) due lon), (ad 6, eI 81 (ca 6) pic), (ad 7, eI 81 (ca 7) (upd (fo (mc_wef siz) iv wei) iv (1000 + (siz iv)))), (ad 8, eL 32 (ca 8) ser), (ad 11, eI 81 (ca 11) siz), (ad 13, eL 81 (ca 13) pla)] := hD
      refine lv_iinc (v := nI (iv + 1)) (lv' := [(1, .int (nI (iv + 1))), (0, .ref (ad 1))]) hx hb d_S_findLeast_32 hl (k := 1) rfl (k_inc _) (by decide) rfl (fun ls hl => ?_)
      refine lv_goto (tgt := 2) hx hb d_S_findLeast_35 (by decide) ?_
      refine ihiv _ _ _ (by omega) ?_
      have e_9 : (fo (mc_wef siz) (iv + 1) wei) = upd (fo (mc_wef siz) iv wei) iv (1000 + (siz iv)) := rfl
      exact ⟨by (try rw [e_9]); exact lv_sub hl [1, 0] rfl, by (try rw [e_9]); exact hP, by (try rw [e_9]); exact hD, hS, trivial⟩
  · have hdone : True := trivial
    have e_10 : nI 0 = 0 := rfl
    have e_11 : (fo (mc_wef siz) 0 wei) = wei := rfl
    exact ⟨by (try rw [e_10]); (try rw [e_11]); exact lv_sub hl [1, 0] rfl, by (try rw [e_10]); (try rw [e_11]); exact hP, by (try rw [e_10]); (try rw [e_11]); exact hD, hS, trivial⟩
end
section
set_option maxHeartbeats 4000000 in
set_option maxRecDepth 100000 in
theorem c_forget (l : Launch) (dC : Nat → ClassId) (dI : Nat → Nat → Nat) (ad : Nat → Nat) (ca : Nat → ClassId) (ic : Int32) (oc : Int32) (ga : Int32) (se : Int32) (sz : Nat) : Met l y_H_forget w_H_forget ({ frames := 0, cells := 0, slots := 0, locals := 0 }) (kw_P [.ref (ad 0)] sz (dC, dI) vC [(ad 0, eH ad ic oc ga se)] []) (kw_Qv (dC, dI) vC [] (va_A [(ad 0, eH ad ic oc ga se)] sz) [(ad 0, eH ad ic oc 0 0)]) 0 0 (va_A [(ad 0, eH ad ic oc ga se)] sz) := by
  refine Met.ofW (cc := b_H_forget) (maxL := 1) (ret := none) (by decide) rfl ?_
  intro p e s m args below meth c s₁ B hml hv
  obtain ⟨rfl, hsz, hP, hK, hD0⟩ := hv
  have hx := B.exec
  have hb := B.bytes
  have hr := B.returns
  have hts := atoms_spec (ws := w_H_forget) B.pre
  have hlocks := B.notSynchronized
  have hown : s.vm.findClass R_H = some m.cls := findClass_of_methodNamed B.named
  subst hsz
  have hD := hD0.self (sz := s.heap.size)
  generalize hAe : va_A [(ad 0, eH ad ic oc ga se)] s.heap.size = A at hD ⊢
  have hA : ∀ q : Nat, s.heap.size ≤ q → A q := fun q h => by rw [← hAe]; exact Or.inr h
  have hS : va_S A s.heap s.heap [] := va_S.rf
  have hP : va_P (dC, dI) vC [(ad 0, eH ad ic oc ga se)] s.heap := hP
  have hl := lv_entry ([.ref (ad 0)]) (n := 1) (Nat.le_of_ble_eq_true rfl)
  rw [lg_entry_eq]
  generalize (lg_sl ([.ref (ad 0)]) ++ List.replicate (1 - (lg_sl ([.ref (ad 0)])).length) Slot.unset).toArray = ls at hl ⊢
  have hl : lv_has ls 1 [(0, .ref (ad 0))] := hl
  refine lv_aload_n hx hb d_H_forget_0 rfl (lv_at hl 0 rfl) ?_
  refine lv_iconst (v := 0) hx hb d_H_forget_1 (by decide) ?_
  refine va_put (D := (dC, dI)) (ci := 3) (v := .int 0) (ty := .boolean) (C := R_H) (T := F_H) (N := 8) hx hb hts (hin_of in_H) ft_H tk_H nm_H hown hK hP hD hS 0 rfl rfl 6 (by decide) (hw_of hts mw_185) (fun _ h9 => h9) rfl (by decide +kernel) rfl rfl (Nat.le_of_ble_eq_true rfl) d_H_forget_2 (fun H locs hP hD hS => ?_)
  have hP : va_P (dC, dI) vC [(ad 0, eH ad ic oc 0 se)] H := hP
  have hD : va_D A [(ad 0, eH ad ic oc 0 se)] := hD
  refine lv_aload_n hx hb d_H_forget_5 rfl (lv_at hl 0 rfl) ?_
  refine lv_iconst (v := 0) hx hb d_H_forget_6 (by decide) ?_
  refine va_put (D := (dC, dI)) (ci := 3) (v := .int 0) (ty := .boolean) (C := R_H) (T := F_H) (N := 8) hx hb hts (hin_of in_H) ft_H tk_H nm_H hown hK hP hD hS 0 rfl rfl 7 (by decide) (hw_of hts mw_186) (fun _ h9 => h9) rfl (by decide +kernel) rfl rfl (Nat.le_of_ble_eq_true rfl) d_H_forget_7 (fun H locs hP hD hS => ?_)
  have hP : va_P (dC, dI) vC [(ad 0, eH ad ic oc 0 0)] H := hP
  have hD : va_D A [(ad 0, eH ad ic oc 0 0)] := hD
  exact W.vret hx hb hr (fun t ht hW => by exact kw_endv hP hD hK hS [0] rfl (by decide) rfl ht hW.alike) hS.2.2 d_H_forget_10
set_option maxHeartbeats 4000000 in
set_option maxRecDepth 100000 in
theorem c_isOutput (l : Launch) (dC : Nat → ClassId) (dI : Nat → Nat → Nat) (ad : Nat → Nat) (ca : Nat → ClassId) (ic : Int32) (oc : Int32) (ga : Int32) (se : Int32) (o : Int32) : Met l y_H_isOutput w_H_isOutput ({ frames := 0, cells := 0, slots := 0, locals := 0 }) (kr_P [.ref (ad 0), .int o] (dC, dI) vC [(ad 0, eH ad ic oc ga se)] []) (vp_Si (fun r => r = if (!decide (o < 0) && !decide (oc ≤ o)) = true then 1 else 0)) 0 0 (fun _ => False) := by
  refine Met.ofW (cc := b_H_isOutput) (maxL := 2) (ret := (some .boolean)) (by decide) rfl ?_
  intro p e s m args below meth c s₁ B hml hv
  obtain ⟨rfl, hP, hK⟩ := hv
  have hx := B.exec
  have hb := B.bytes
  have hr := B.returns
  have hts := atoms_spec (ws := w_H_isOutput) B.pre
  have hlocks := B.notSynchronized
  have hown : s.vm.findClass R_H = some m.cls := findClass_of_methodNamed B.named
  have hl := lv_entry ([.ref (ad 0), .int o]) (n := 2) (Nat.le_of_ble_eq_true rfl)
  rw [lg_entry_eq]
  generalize (lg_sl ([.ref (ad 0), .int o]) ++ List.replicate (2 - (lg_sl ([.ref (ad 0), .int o])).length) Slot.unset).toArray = ls at hl ⊢
  have hl : lv_has ls 2 [(0, .ref (ad 0)), (1, .int o)] := hl
  refine lv_iload_n hx hb d_H_isOutput_0 rfl (lv_at hl 1 rfl) ?_
  refine lv_if_lt (tgt := 16) hx hb d_H_isOutput_1 (by decide) (fun c_1 => ?_) (fun c_1 => ?_)
  · refine lv_iconst (v := 0) hx hb d_H_isOutput_16 (by decide) ?_
    exact W.zret (v := 0) hx hb hr rfl (fun t ht hW => ⟨0, rfl, by (first | rw [decide_eq_true c_1] | rw [decide_eq_false c_1] | rw [decide_eq_false (Nat.not_lt.mpr c_1)] | rw [decide_eq_false (Nat.not_le.mpr c_1)] | rw [c_1] | skip); rfl, ht⟩) (fun q h => by cases h) d_H_isOutput_17
  · refine lv_iload_n hx hb d_H_isOutput_4 rfl (lv_at hl 1 rfl) ?_
    refine lv_aload_n hx hb d_H_isOutput_5 rfl (lv_at hl 0 rfl) ?_
    refine va_get (D := (dC, dI)) (ci := 3) (v := .int oc) (C := R_H) (T := F_H) (N := 8) hx hb hts (hin_of in_H) hown hK hP 0 rfl rfl 5 (by decide) (hw_of hts mw_184) (fun _ h9 => h9) rfl d_H_isOutput_6 ?_
    refine lv_icmp_ge (tgt := 16) hx hb d_H_isOutput_9 (by decide) (fun c_9 => ?_) (fun c_9 => ?_)
    · refine lv_iconst (v := 0) hx hb d_H_isOutput_16 (by decide) ?_
      exact W.zret (v := 0) hx hb hr rfl (fun t ht hW => ⟨0, rfl, by (first | rw [decide_eq_true c_1] | rw [decide_eq_false c_1] | rw [decide_eq_false (Nat.not_lt.mpr c_1)] | rw [decide_eq_false (Nat.not_le.mpr c_1)] | rw [c_1] | skip); (first | rw [decide_eq_true c_9] | rw [decide_eq_false c_9] | rw [decide_eq_false (Nat.not_lt.mpr c_9)] | rw [decide_eq_false (Nat.not_le.mpr c_9)] | rw [c_9] | skip); rfl, ht⟩) (fun q h => by cases h) d_H_isOutput_17
    · refine lv_iconst (v := 1) hx hb d_H_isOutput_12 (by decide) ?_
      refine lv_goto (tgt := 17) hx hb d_H_isOutput_13 (by decide) ?_
      exact W.zret (v := 1) hx hb hr rfl (fun t ht hW => ⟨1, rfl, by (first | rw [decide_eq_true c_1] | rw [decide_eq_false c_1] | rw [decide_eq_false (Nat.not_lt.mpr c_1)] | rw [decide_eq_false (Nat.not_le.mpr c_1)] | rw [c_1] | skip); (first | rw [decide_eq_true c_9] | rw [decide_eq_false c_9] | rw [decide_eq_false (Nat.not_lt.mpr c_9)] | rw [decide_eq_false (Nat.not_le.mpr c_9)] | rw [c_9] | skip); rfl, ht⟩) (fun q h => by cases h) d_H_isOutput_17
set_option maxHeartbeats 4000000 in
set_option maxRecDepth 100000 in
theorem c_allInputs (l : Launch) (dC : Nat → ClassId) (dI : Nat → Nat → Nat) (ad : Nat → Nat) (ca : Nat → ClassId) (ic : Int32) (oc : Int32) (ga : Int32) (se : Int32) : Met l y_H_allInputs w_H_allInputs ({ frames := 0, cells := 0, slots := 0, locals := 0 }) (kr_P [.ref (ad 0)] (dC, dI) vC [(ad 0, eH ad ic oc ga se)] []) (vp_Si (fun r => r = mc_all ic)) 0 0 (fun _ => False) := by
  refine Met.ofW (cc := b_H_allInputs) (maxL := 1) (ret := (some .int)) (by decide) rfl ?_
  intro p e s m args below meth c s₁ B hml hv
  obtain ⟨rfl, hP, hK⟩ := hv
  have hx := B.exec
  have hb := B.bytes
  have hr := B.returns
  have hts := atoms_spec (ws := w_H_allInputs) B.pre
  have hlocks := B.notSynchronized
  have hown : s.vm.findClass R_H = some m.cls := findClass_of_methodNamed B.named
  have hl := lv_entry ([.ref (ad 0)]) (n := 1) (Nat.le_of_ble_eq_true rfl)
  rw [lg_entry_eq]
  generalize (lg_sl ([.ref (ad 0)]) ++ List.replicate (1 - (lg_sl ([.ref (ad 0)])).length) Slot.unset).toArray = ls at hl ⊢
  have hl : lv_has ls 1 [(0, .ref (ad 0))] := hl
  refine lv_iconst (v := 1) hx hb d_H_allInputs_0 (by decide) ?_
  refine lv_iconst (v := 1) hx hb d_H_allInputs_1 (by decide) ?_
  refine lv_aload_n hx hb d_H_allInputs_2 rfl (lv_at hl 0 rfl) ?_
  refine va_get (D := (dC, dI)) (ci := 3) (v := .int ic) (C := R_H) (T := F_H) (N := 8) hx hb hts (hin_of in_H) hown hK hP 0 rfl rfl 4 (by decide) (hw_of hts mw_183) (fun _ h9 => h9) rfl d_H_allInputs_3 ?_
  refine lv_ishl hx hb d_H_allInputs_6 ?_
  refine lv_ishl hx hb d_H_allInputs_7 ?_
  refine lv_iconst (v := 1) hx hb d_H_allInputs_8 (by decide) ?_
  refine lv_isub hx hb d_H_allInputs_9 ?_
  exact W.iret (v := ((1 : Int32) <<< (((1 : Int32) <<< (ic &&& 31)) &&& 31)) - 1) hx hb hr (fun t ht hW => ⟨((1 : Int32) <<< (((1 : Int32) <<< (ic &&& 31)) &&& 31)) - 1, rfl, rfl, ht⟩) (fun q h => by cases h) d_H_allInputs_10
set_option maxHeartbeats 4000000 in
set_option maxRecDepth 100000 in
theorem c_restart (l : Launch) (dC : Nat → ClassId) (dI : Nat → Nat → Nat) (ad : Nat → Nat) (ca : Nat → ClassId) (ic : Int32) (oc : Int32) (ga : Int32) (se : Int32) (one : Nat → Int32) (zer : Nat → Int32) (i1 : Int32) (o1 : Int32) (sz : Nat) : Met l y_H_restart w_H_restart ({ frames := 1, cells := 0, slots := 0, locals := 20 }) (kw_P [.ref (ad 0), .int i1, .int o1] sz (dC, dI) vC [(ad 0, eH ad ic oc ga se), (ad 4, eI 2 (ca 4) one), (ad 5, eI 2 (ca 5) zer)] [(ca 4, .int), (ca 5, .int)]) (kw_Qv (dC, dI) vC [(ca 4, .int), (ca 5, .int)] (va_A [(ad 0, eH ad ic oc ga se), (ad 4, eI 2 (ca 4) one), (ad 5, eI 2 (ca 5) zer)] sz) [(ad 0, eH ad i1 o1 0 0), (ad 4, eI 2 (ca 4) (fo (mc_setf 0) 2 one)), (ad 5, eI 2 (ca 5) (fo (mc_setf (mc_all i1)) 2 zer))]) 0 0 (va_A [(ad 0, eH ad ic oc ga se), (ad 4, eI 2 (ca 4) one), (ad 5, eI 2 (ca 5) zer)] sz) := by
  refine Met.ofW (cc := b_H_restart) (maxL := 4) (ret := none) (by decide) rfl ?_
  intro p e s m args below meth c s₁ B hml hv
  obtain ⟨rfl, hsz, hP, hK, hD0⟩ := hv
  have hx := B.exec
  have hb := B.bytes
  have hr := B.returns
  have hts := atoms_spec (ws := w_H_restart) B.pre
  have hlocks := B.notSynchronized
  have hown : s.vm.findClass R_H = some m.cls := findClass_of_methodNamed B.named
  subst hsz
  have hD := hD0.self (sz := s.heap.size)
  generalize hAe : va_A [(ad 0, eH ad ic oc ga se), (ad 4, eI 2 (ca 4) one), (ad 5, eI 2 (ca 5) zer)] s.heap.size = A at hD ⊢
  have hA : ∀ q : Nat, s.heap.size ≤ q → A q := fun q h => by rw [← hAe]; exact Or.inr h
  have hS : va_S A s.heap s.heap [] := va_S.rf
  have hP : va_P (dC, dI) vC [(ad 0, eH ad ic oc ga se), (ad 4, eI 2 (ca 4) one), (ad 5, eI 2 (ca 5) zer)] s.heap := hP
  have hl := lv_entry ([.ref (ad 0), .int i1, .int o1]) (n := 4) (Nat.le_of_ble_eq_true rfl)
  rw [lg_entry_eq]
  generalize (lg_sl ([.ref (ad 0), .int i1, .int o1]) ++ List.replicate (4 - (lg_sl ([.ref (ad 0), .int i1, .int o1])).length) Slot.unset).toArray = ls at hl ⊢
  have hl : lv_has ls 4 [(0, .ref (ad 0)), (1, .int i1), (2, .int o1)] := hl
  refine lv_aload_n hx hb d_H_restart_0 rfl (lv_at hl 0 rfl) ?_
  refine lv_iload_n hx hb d_H_restart_1 rfl (lv_at hl 1 rfl) ?_
  refine va_put (D := (dC, dI)) (ci := 3) (v := .int i1) (ty := .int) (C := R_H) (T := F_H) (N := 8) hx hb hts (hin_of in_H) ft_H tk_H nm_H hown hK hP hD hS 0 rfl rfl 4 (by decide) (hw_of hts mw_183) (fun _ h9 => h9) rfl (by decide +kernel) rfl rfl (Nat.le_of_ble_eq_true rfl) d_H_restart_2 (fun H locs hP hD hS => ?_)
  have hP : va_P (dC, dI) vC [(ad 0, eH ad i1 oc ga se), (ad 4, eI 2 (ca 4) one), (ad 5, eI 2 (ca 5) zer)] H := hP
  have hD : va_D A [(ad 0, eH ad i1 oc ga se), (ad 4, eI 2 (ca 4) one), (ad 5, eI 2 (ca 5) zer)] := hD
  refine lv_aload_n hx hb d_H_restart_5 rfl (lv_at hl 0 rfl) ?_
  refine lv_iload_n hx hb d_H_restart_6 rfl (lv_at hl 2 rfl) ?_
  refine va_put (D := (dC, dI)) (ci := 3) (v := .int o1) (ty := .int) (C := R_H) (T := F_H) (N := 8) hx hb hts (hin_of in_H) ft_H tk_H nm_H hown hK hP hD hS 0 rfl rfl 5 (by decide) (hw_of hts mw_184) (fun _ h9 => h9) rfl (by decide +kernel) rfl rfl (Nat.le_of_ble_eq_true rfl) d_H_restart_7 (fun H locs hP hD hS => ?_)
  have hP : va_P (dC, dI) vC [(ad 0, eH ad i1 o1 ga se), (ad 4, eI 2 (ca 4) one), (ad 5, eI 2 (ca 5) zer)] H := hP
  have hD : va_D A [(ad 0, eH ad i1 o1 ga se), (ad 4, eI 2 (ca 4) one), (ad 5, eI 2 (ca 5) zer)] := hD
  refine lv_iconst (v := 0) hx hb d_H_restart_10 (by decide) ?_
  refine lv_istore_n (lv' := [(3, .int 0), (0, .ref (ad 0)), (1, .int i1), (2, .int o1)]) hx hb d_H_restart_11 rfl hl (by decide) rfl (fun ls hl => ?_)
  refine k_loopH (fun iv H locs ls => lv_has ls 4 [(0, .ref (ad 0)), (1, .int i1), (2, .int o1), (3, .int (nI iv))] ∧ va_P (dC, dI) vC [(ad 0, eH ad i1 o1 ga se), (ad 4, eI 2 (ca 4) (fo (mc_setf 0) iv one)), (ad 5, eI 2 (ca 5) (fo (mc_setf (mc_all i1)) iv zer))] H ∧ va_D A [(ad 0, eH ad i1 o1 ga se), (ad 4, eI 2 (ca 4) (fo (mc_setf 0) iv one)), (ad 5, eI 2 (ca 5) (fo (mc_setf (mc_all i1)) iv zer))] ∧ va_S A s.heap H locs ∧ True) 2 ?_ 0 _ _ _ (Nat.zero_le _) ?_
  · intro iv H locs ls hiiv hI ihiv
    obtain ⟨hl, hP, hD, hS, -⟩ := hI
    refine lv_iload_n hx hb d_H_restart_12 rfl (lv_at hl 3 rfl) ?_
    refine lv_iconst (v := 2) hx hb d_H_restart_13 (by decide) ?_
    refine k_ge (a := iv) (b := 2) (tgt := 40) hx hb rfl rfl (by omega) (by omega) d_H_restart_14 (by decide) (fun c_14 => ?_) (fun c_14 => ?_)
    · obtain rfl : 2 = iv := by omega
      refine lv_aload_n hx hb d_H_restart_40 rfl (lv_at hl 0 rfl) ?_
      have hPc := hP.sub (ws' := [(ad 0, eH ad i1 o1 ga se)]) [0] rfl
      have hDc := hD.sub (ws' := [(ad 0, eH ad i1 o1 ga se)]) [0] (by decide) rfl
      have hKc := hK.sub (tys' := []) [] rfl
      refine kw_callv (wr := [(ad 4, eI 2 (ca 4) (fo (mc_setf 0) 2 one)), (ad 5, eI 2 (ca 5) (fo (mc_setf (mc_all i1)) 2 zer))]) (wf := [(ad 0, eH ad i1 o1 0 0)]) (va_runV (As := []) (rest := []) ⟨hx, hb, hml, hown, hts⟩ (c_forget l dC dI ad ca i1 o1 ga se _) (cwV 0 hts (gd_V mw_175 mw_177 mw_3 mw_40 mw_178) rfl rfl rfl (by decide +kernel) ⟨Nat.le_of_ble_eq_true rfl, Nat.le_of_ble_eq_true rfl⟩) (kw_V (q0 := 0) (ci := 3) hKc hPc hDc rfl rfl) rfl rfl hl.1 rfl (lv_room (Nat.le_of_ble_eq_true rfl)) d_H_restart_41 ⟨Nat.zero_le _, Nat.zero_le _⟩) hP hD hS hA [0] [1, 2] rfl rfl (by decide) (by decide) (fun H locs hP hD hS => ?_)
      have hP : va_P (dC, dI) vC [(ad 4, eI 2 (ca 4) (fo (mc_setf 0) 2 one)), (ad 5, eI 2 (ca 5) (fo (mc_setf (mc_all i1)) 2 zer)), (ad 0, eH ad i1 o1 0 0)] H := hP
      have hD : va_D A [(ad 4, eI 2 (ca 4) (fo (mc_setf 0) 2 one)), (ad 5, eI 2 (ca 5) (fo (mc_setf (mc_all i1)) 2 zer)), (ad 0, eH ad i1 o1 0 0)] := hD
      exact W.vret hx hb hr (fun t ht hW => by exact kw_endv hP hD hK hS [2, 0, 1] rfl (by decide) rfl ht hW.alike) hS.2.2 d_H_restart_44
    · refine lv_aload_n hx hb d_H_restart_17 rfl (lv_at hl 0 rfl) ?_
      refine va_get (D := (dC, dI)) (ci := 3) (v := .ref (ad 4)) (C := R_H) (T := F_H) (N := 8) hx hb hts (hin_of in_H) hown hK hP 0 rfl rfl 0 (by decide) (hw_of hts mw_179) (fun _ h9 => h9) rfl d_H_restart_18 ?_
      refine lv_iload_n hx hb d_H_restart_21 rfl (lv_at hl 3 rfl) ?_
      refine lv_iconst (v := 0) hx hb d_H_restart_22 (by decide) ?_
      refine k_iast (k := iv) hx hb hK hP hD hS 1 0 rfl rfl rfl (by omega) (by decide) d_H_restart_23 (fun H locs hP hD hS => ?_)
      have hP : va_P (dC, dI) vC [(ad 0, eH ad i1 o1 ga se), (ad 4, eI 2 (ca 4) (upd (fo (mc_setf 0) iv one) iv 0)), (ad 5, eI 2 (ca 5) (fo (mc_setf (mc_all i1)) iv zer))] H := hP
      have hD : va_D A [(ad 0, eH ad i1 o1 ga se), (ad 4, eI 2 (ca 4) (upd (fo (mc_setf 0) iv one) iv 0)), (ad 5, eI 2 (ca 5) (fo (mc_setf (mc_all i1)) iv zer))] := hD
      refine lv_aload_n hx hb d_H_restart_24 rfl (lv_at hl 0 rfl) ?_
      refine va_get (D := (dC, dI)) (ci := 3) (v := .ref (ad 5)) (C := R_H) (T := F_H) (N := 8) hx hb hts (hin_of in_H) hown hK hP 0 rfl rfl 1 (by decide) (hw_of hts mw_180) (fun _ h9 => h9) rfl d_H_restart_25 ?_
      refine lv_iload_n hx hb d_H_restart_28 rfl (lv_at hl 3 rfl) ?_
      refine lv_aload_n hx hb d_H_restart_29 rfl (lv_at hl 0 rfl) ?_
      have hPc := hP.sub (ws' := [(ad 0, eH ad i1 o1 ga se)]) [0] rfl
      have hKc := hK.sub (tys' := []) [] rfl
      refine vp_callSi (W.runV (As := []) (rest := [.int (nI iv), .ref (ad 5)]) ⟨hx, hb, hml, hown, hts⟩ (c_allInputs l dC dI ad ca i1 o1 ga se) (cwV 0 hts (gd_V mw_171 mw_173 mw_2 mw_40 mw_174) rfl rfl rfl (by decide +kernel) ⟨Nat.le_of_ble_eq_true rfl, Nat.le_of_ble_eq_true rfl⟩) (kr_V (q0 := 0) (ci := 3) hKc hPc rfl rfl) rfl rfl hl.1 rfl (lv_room (Nat.le_of_ble_eq_true rfl)) d_H_restart_30 ⟨Nat.zero_le _, Nat.zero_le _⟩) (fun r hq => ?_)
      subst hq
      refine k_iast (k := iv) hx hb hK hP hD hS 2 1 rfl rfl rfl (by omega) (by decide) d_H_restart_33 (fun H locs hP hD hS => ?_)
      have hP : va_P (dC, dI) vC [(ad 0, eH ad i1 o1 ga se), (ad 4, eI 2 (ca 4) (upd (fo (mc_setf 0) iv one) iv 0)), (ad 5, eI 2 (ca 5) (upd (fo (mc_setf (mc_all i1)) iv zer) iv (mc_all i1)))] H := hP
      have hD : va_D A [(ad 0, eH ad i1 o1 ga se), (ad 4, eI 2 (ca 4) (upd (fo (mc_setf 0) iv one) iv 0)), (ad 5, eI 2 (ca 5) (upd (fo (mc_setf (mc_all i1)) iv zer) iv (mc_all i1)))] := hD
      refine lv_iinc (v := nI (iv + 1)) (lv' := [(3, .int (nI (iv + 1))), (0, .ref (ad 0)), (1, .int i1), (2, .int o1)]) hx hb d_H_restart_34 hl (k := 3) rfl (k_inc _) (by decide) rfl (fun ls hl => ?_)
      refine lv_goto (tgt := 12) hx hb d_H_restart_37 (by decide) ?_
      refine ihiv _ _ _ (by omega) ?_
      have e_1 : fo (mc_setf 0) (iv + 1) one = upd (fo (mc_setf 0) iv one) iv 0 := rfl
      have e_2 : fo (mc_setf (mc_all i1)) (iv + 1) zer = upd (fo (mc_setf (mc_all i1)) iv zer) iv (mc_all i1) := rfl
      exact ⟨by (try rw [e_1]); (try rw [e_2]); exact lv_sub hl [1, 2, 3, 0] rfl, by (try rw [e_1]); (try rw [e_2]); exact hP, by (try rw [e_1]); (try rw [e_2]); exact hD, hS, trivial⟩
  · have hdone : True := trivial
    have e_3 : nI 0 = 0 := rfl
    have e_4 : fo (mc_setf 0) 0 one = one := rfl
    have e_5 : fo (mc_setf (mc_all i1)) 0 zer = zer := rfl
    exact ⟨by (try rw [e_3]); (try rw [e_4]); (try rw [e_5]); exact lv_sub hl [1, 2, 3, 0] rfl, by (try rw [e_3]); (try rw [e_4]); (try rw [e_5]); exact hP, by (try rw [e_3]); (try rw [e_4]); (try rw [e_5]); exact hD, hS, trivial⟩
end
section
set_option maxHeartbeats 4000000 in
set_option maxRecDepth 100000 in
theorem c_gather (l : Launch) (dC : Nat → ClassId) (dI : Nat → Nat → Nat) (ad : Nat → Nat) (ca : Nat → ClassId) (tP tI : Nat) (nn : Nat) (mo : Nat) (hnn : nn ≤ 4) (hmo : mo ≤ 2) (ga : Int32) (se : Int32) (one : Nat → Int32) (zer : Nat → Int32) (pin : Nat → Int32) (psz : Nat → Int32) (tb : TB) (tg : TB) (htg : tg = m_gath ga nn mo one zer pin psz tb) (sz : Nat) : Met l y_H_gather w_H_gather ({ frames := 3, cells := 0, slots := 0, locals := 100 }) (kw_PX tP tI [.ref (ad 0)] sz (dC, dI) vC [(ad 0, eH ad (nI nn) (nI mo) ga se), (ad 2, eT ad (nI tb.1) tb.2.2.2.2.2.2.1 tb.2.2.2.2.2.2.2.1), (ad 3, eP ad), (ad 4, eI 2 (ca 4) one), (ad 5, eI 2 (ca 5) zer), (ad 9, eI 81 (ca 9) tb.2.1), (ad 10, eI 81 (ca 10) tb.2.2.1), (ad 11, eI 81 (ca 11) tb.2.2.2.1), (ad 12, eI 81 (ca 12) tb.2.2.2.2.1), (ad 13, eL 81 (ca 13) tb.2.2.2.2.2.1), (ad 14, eI 81 (ca 14) tb.2.2.2.2.2.2.2.2), (ad 15, eI 81 (ca 15) pin), (ad 16, eI 81 (ca 16) psz)] [(ca 4, .int), (ca 5, .int), (ca 9, .int), (ca 10, .int), (ca 11, .int), (ca 12, .int), (ca 13, .long), (ca 14, .int), (ca 15, .int), (ca 16, .int)]) (kw_Qv (dC, dI) vC [(ca 4, .int), (ca 5, .int), (ca 9, .int), (ca 10, .int), (ca 11, .int), (ca 12, .int), (ca 13, .long), (ca 14, .int), (ca 15, .int), (ca 16, .int)] (va_A [(ad 0, eH ad (nI nn) (nI mo) ga se), (ad 2, eT ad (nI tb.1) tb.2.2.2.2.2.2.1 tb.2.2.2.2.2.2.2.1), (ad 3, eP ad), (ad 4, eI 2 (ca 4) one), (ad 5, eI 2 (ca 5) zer), (ad 9, eI 81 (ca 9) tb.2.1), (ad 10, eI 81 (ca 10) tb.2.2.1), (ad 11, eI 81 (ca 11) tb.2.2.2.1), (ad 12, eI 81 (ca 12) tb.2.2.2.2.1), (ad 13, eL 81 (ca 13) tb.2.2.2.2.2.1), (ad 14, eI 81 (ca 14) tb.2.2.2.2.2.2.2.2), (ad 15, eI 81 (ca 15) pin), (ad 16, eI 81 (ca 16) psz)] sz) [(ad 0, eH ad (nI nn) (nI mo) (gs ga) se), (ad 2, eT ad (nI tg.1) tg.2.2.2.2.2.2.1 tg.2.2.2.2.2.2.2.1), (ad 3, eP ad), (ad 4, eI 2 (ca 4) one), (ad 5, eI 2 (ca 5) zer), (ad 9, eI 81 (ca 9) tg.2.1), (ad 10, eI 81 (ca 10) tg.2.2.1), (ad 11, eI 81 (ca 11) tg.2.2.2.1), (ad 12, eI 81 (ca 12) tg.2.2.2.2.1), (ad 13, eL 81 (ca 13) tg.2.2.2.2.2.1), (ad 14, eI 81 (ca 14) tg.2.2.2.2.2.2.2.2), (ad 15, eI 81 (ca 15) pin), (ad 16, eI 81 (ca 16) psz)]) 0 0 (va_A [(ad 0, eH ad (nI nn) (nI mo) ga se), (ad 2, eT ad (nI tb.1) tb.2.2.2.2.2.2.1 tb.2.2.2.2.2.2.2.1), (ad 3, eP ad), (ad 4, eI 2 (ca 4) one), (ad 5, eI 2 (ca 5) zer), (ad 9, eI 81 (ca 9) tb.2.1), (ad 10, eI 81 (ca 10) tb.2.2.1), (ad 11, eI 81 (ca 11) tb.2.2.2.1), (ad 12, eI 81 (ca 12) tb.2.2.2.2.1), (ad 13, eL 81 (ca 13) tb.2.2.2.2.2.1), (ad 14, eI 81 (ca 14) tb.2.2.2.2.2.2.2.2), (ad 15, eI 81 (ca 15) pin), (ad 16, eI 81 (ca 16) psz)] sz) := by
  refine Met.ofW (cc := b_H_gather) (maxL := 1) (ret := none) (by decide) rfl ?_
  intro p e s m args below meth c s₁ B hml hv
  obtain ⟨⟨rfl, hsz, hP, hK, hD0⟩, hX⟩ := hv
  have hx := B.exec
  have hb := B.bytes
  have hr := B.returns
  have hts := atoms_spec (ws := w_H_gather) B.pre
  have hlocks := B.notSynchronized
  have hown : s.vm.findClass R_H = some m.cls := findClass_of_methodNamed B.named
  subst hsz
  have hD := hD0.self (sz := s.heap.size)
  generalize hAe : va_A [(ad 0, eH ad (nI nn) (nI mo) ga se), (ad 2, eT ad (nI tb.1) tb.2.2.2.2.2.2.1 tb.2.2.2.2.2.2.2.1), (ad 3, eP ad), (ad 4, eI 2 (ca 4) one), (ad 5, eI 2 (ca 5) zer), (ad 9, eI 81 (ca 9) tb.2.1), (ad 10, eI 81 (ca 10) tb.2.2.1), (ad 11, eI 81 (ca 11) tb.2.2.2.1), (ad 12, eI 81 (ca 12) tb.2.2.2.2.1), (ad 13, eL 81 (ca 13) tb.2.2.2.2.2.1), (ad 14, eI 81 (ca 14) tb.2.2.2.2.2.2.2.2), (ad 15, eI 81 (ca 15) pin), (ad 16, eI 81 (ca 16) psz)] s.heap.size = A at hD hX ⊢
  have hA : ∀ q : Nat, s.heap.size ≤ q → A q := fun q h => by rw [← hAe]; exact Or.inr h
  have hS : va_S A s.heap s.heap [] := va_S.rf
  have hP : va_P (dC, dI) vC [(ad 0, eH ad (nI nn) (nI mo) ga se), (ad 2, eT ad (nI tb.1) tb.2.2.2.2.2.2.1 tb.2.2.2.2.2.2.2.1), (ad 3, eP ad), (ad 4, eI 2 (ca 4) one), (ad 5, eI 2 (ca 5) zer), (ad 9, eI 81 (ca 9) tb.2.1), (ad 10, eI 81 (ca 10) tb.2.2.1), (ad 11, eI 81 (ca 11) tb.2.2.2.1), (ad 12, eI 81 (ca 12) tb.2.2.2.2.1), (ad 13, eL 81 (ca 13) tb.2.2.2.2.2.1), (ad 14, eI 81 (ca 14) tb.2.2.2.2.2.2.2.2), (ad 15, eI 81 (ca 15) pin), (ad 16, eI 81 (ca 16) psz)] s.heap := hP
  have hl := lv_entry ([.ref (ad 0)]) (n := 1) (Nat.le_of_ble_eq_true rfl)
  rw [lg_entry_eq]
  generalize (lg_sl ([.ref (ad 0)]) ++ List.replicate (1 - (lg_sl ([.ref (ad 0)])).length) Slot.unset).toArray = ls at hl ⊢
  have hl : lv_has ls 1 [(0, .ref (ad 0))] := hl
  refine lv_aload_n hx hb d_H_gather_0 rfl (lv_at hl 0 rfl) ?_
  refine va_get (D := (dC, dI)) (ci := 3) (v := .int ga) (C := R_H) (T := F_H) (N := 8) hx hb hts (hin_of in_H) hown hK hP 0 rfl rfl 6 (by decide) (hw_of hts mw_185) (fun _ h9 => h9) rfl d_H_gather_1 ?_
  refine lv_if_ne (tgt := 35) hx hb d_H_gather_4 (by decide) (fun c_4 => ?_) (fun c_4 => ?_)
  · have e_1 : gs ga = ga := by first | exact if_pos c_4 | exact if_neg c_4 | (rw [htg, m_gath, if_neg c_4]; done) | (rw [htg, m_gath, if_pos c_4]; rfl)
    have e_2 : nI tg.1 = nI tb.1 := by first | exact if_pos c_4 | exact if_neg c_4 | (rw [htg, m_gath, if_neg c_4]; done) | (rw [htg, m_gath, if_pos c_4]; rfl)
    have e_3 : tg.2.2.2.2.2.2.1 = tb.2.2.2.2.2.2.1 := by first | exact if_pos c_4 | exact if_neg c_4 | (rw [htg, m_gath, if_neg c_4]; done) | (rw [htg, m_gath, if_pos c_4]; rfl)
    have e_4 : tg.2.2.2.2.2.2.2.1 = tb.2.2.2.2.2.2.2.1 := by first | exact if_pos c_4 | exact if_neg c_4 | (rw [htg, m_gath, if_neg c_4]; done) | (rw [htg, m_gath, if_pos c_4]; rfl)
    have e_5 : tg.2.1 = tb.2.1 := by first | exact if_pos c_4 | exact if_neg c_4 | (rw [htg, m_gath, if_neg c_4]; done) | (rw [htg, m_gath, if_pos c_4]; rfl)
    have e_6 : tg.2.2.1 = tb.2.2.1 := by first | exact if_pos c_4 | exact if_neg c_4 | (rw [htg, m_gath, if_neg c_4]; done) | (rw [htg, m_gath, if_pos c_4]; rfl)
    have e_7 : tg.2.2.2.1 = tb.2.2.2.1 := by first | exact if_pos c_4 | exact if_neg c_4 | (rw [htg, m_gath, if_neg c_4]; done) | (rw [htg, m_gath, if_pos c_4]; rfl)
    have e_8 : tg.2.2.2.2.1 = tb.2.2.2.2.1 := by first | exact if_pos c_4 | exact if_neg c_4 | (rw [htg, m_gath, if_neg c_4]; done) | (rw [htg, m_gath, if_pos c_4]; rfl)
    have e_9 : tg.2.2.2.2.2.1 = tb.2.2.2.2.2.1 := by first | exact if_pos c_4 | exact if_neg c_4 | (rw [htg, m_gath, if_neg c_4]; done) | (rw [htg, m_gath, if_pos c_4]; rfl)
    have e_10 : tg.2.2.2.2.2.2.2.2 = tb.2.2.2.2.2.2.2.2 := by first | exact if_pos c_4 | exact if_neg c_4 | (rw [htg, m_gath, if_neg c_4]; done) | (rw [htg, m_gath, if_pos c_4]; rfl)
    exact W.vret hx hb hr (fun t ht hW => by (try rw [e_1]); (try rw [e_2]); (try rw [e_3]); (try rw [e_4]); (try rw [e_5]); (try rw [e_6]); (try rw [e_7]); (try rw [e_8]); (try rw [e_9]); (try rw [e_10]); exact kw_endv hP hD hK hS [0, 1, 2, 3, 4, 5, 6, 7, 8, 9, 10, 11, 12] rfl (by decide) rfl ht hW.alike) hS.2.2 d_H_gather_35
  · refine lv_aload_n hx hb d_H_gather_7 rfl (lv_at hl 0 rfl) ?_
    refine va_get (D := (dC, dI)) (ci := 3) (v := .ref (ad 2)) (C := R_H) (T := F_H) (N := 8) hx hb hts (hin_of in_H) hown hK hP 0 rfl rfl 3 (by decide) (hw_of hts mw_182) (fun _ h9 => h9) rfl d_H_gather_8 ?_
    refine lv_aload_n hx hb d_H_gather_11 rfl (lv_at hl 0 rfl) ?_
    refine va_get (D := (dC, dI)) (ci := 3) (v := .int (nI nn)) (C := R_H) (T := F_H) (N := 8) hx hb hts (hin_of in_H) hown hK hP 0 rfl rfl 4 (by decide) (hw_of hts mw_183) (fun _ h9 => h9) rfl d_H_gather_12 ?_
    refine lv_aload_n hx hb d_H_gather_15 rfl (lv_at hl 0 rfl) ?_
    refine va_get (D := (dC, dI)) (ci := 3) (v := .int (nI mo)) (C := R_H) (T := F_H) (N := 8) hx hb hts (hin_of in_H) hown hK hP 0 rfl rfl 5 (by decide) (hw_of hts mw_184) (fun _ h9 => h9) rfl d_H_gather_16 ?_
    refine lv_aload_n hx hb d_H_gather_19 rfl (lv_at hl 0 rfl) ?_
    refine va_get (D := (dC, dI)) (ci := 3) (v := .ref (ad 4)) (C := R_H) (T := F_H) (N := 8) hx hb hts (hin_of in_H) hown hK hP 0 rfl rfl 0 (by decide) (hw_of hts mw_179) (fun _ h9 => h9) rfl d_H_gather_20 ?_
    refine lv_aload_n hx hb d_H_gather_23 rfl (lv_at hl 0 rfl) ?_
    refine va_get (D := (dC, dI)) (ci := 3) (v := .ref (ad 5)) (C := R_H) (T := F_H) (N := 8) hx hb hts (hin_of in_H) hown hK hP 0 rfl rfl 1 (by decide) (hw_of hts mw_180) (fun _ h9 => h9) rfl d_H_gather_24 ?_
    have hPc := hP.sub (ws' := [(ad 2, eT ad (nI tb.1) tb.2.2.2.2.2.2.1 tb.2.2.2.2.2.2.2.1), (ad 3, eP ad), (ad 4, eI 2 (ca 4) one), (ad 5, eI 2 (ca 5) zer), (ad 9, eI 81 (ca 9) tb.2.1), (ad 10, eI 81 (ca 10) tb.2.2.1), (ad 11, eI 81 (ca 11) tb.2.2.2.1), (ad 12, eI 81 (ca 12) tb.2.2.2.2.1), (ad 13, eL 81 (ca 13) tb.2.2.2.2.2.1), (ad 14, eI 81 (ca 14) tb.2.2.2.2.2.2.2.2), (ad 15, eI 81 (ca 15) pin), (ad 16, eI 81 (ca 16) psz)]) [1, 2, 3, 4, 5, 6, 7, 8, 9, 10, 11, 12] rfl
    have hDc := hD.sub (ws' := [(ad 2, eT ad (nI tb.1) tb.2.2.2.2.2.2.1 tb.2.2.2.2.2.2.2.1), (ad 3, eP ad), (ad 4, eI 2 (ca 4) one), (ad 5, eI 2 (ca 5) zer), (ad 9, eI 81 (ca 9) tb.2.1), (ad 10, eI 81 (ca 10) tb.2.2.1), (ad 11, eI 81 (ca 11) tb.2.2.2.1), (ad 12, eI 81 (ca 12) tb.2.2.2.2.1), (ad 13, eL 81 (ca 13) tb.2.2.2.2.2.1), (ad 14, eI 81 (ca 14) tb.2.2.2.2.2.2.2.2), (ad 15, eI 81 (ca 15) pin), (ad 16, eI 81 (ca 16) psz)]) [1, 2, 3, 4, 5, 6, 7, 8, 9, 10, 11, 12] (by decide) rfl
    have hKc := hK.sub (tys' := [(ca 4, .int), (ca 5, .int), (ca 9, .int), (ca 10, .int), (ca 11, .int), (ca 12, .int), (ca 13, .long), (ca 14, .int), (ca 15, .int), (ca 16, .int)]) [0, 1, 2, 3, 4, 5, 6, 7, 8, 9] rfl
    refine kw_callv (wr := [(ad 0, eH ad (nI nn) (nI mo) ga se)]) (wf := [(ad 2, eT ad (nI ((fo (mc_filf one pin psz (fo (mc_oof pin zer mo) (tpow nn) tb.2.2.2.2.2.2.2.2)) (tpow nn) (0, tb.2.1, tb.2.2.1, tb.2.2.2.1, tb.2.2.2.2.1, tb.2.2.2.2.2.1)).1)) (fo (mc_plf one 3) 2 0) (mc_lon (fo (mc_filf one pin psz (fo (mc_oof pin zer mo) (tpow nn) tb.2.2.2.2.2.2.2.2)) (tpow nn) (0, tb.2.1, tb.2.2.1, tb.2.2.2.1, tb.2.2.2.2.1, tb.2.2.2.2.2.1)).2.2.2.2.2 (fo (mc_filf one pin psz (fo (mc_oof pin zer mo) (tpow nn) tb.2.2.2.2.2.2.2.2)) (tpow nn) (0, tb.2.1, tb.2.2.1, tb.2.2.2.1, tb.2.2.2.2.1, tb.2.2.2.2.2.1)).1)), (ad 3, eP ad), (ad 4, eI 2 (ca 4) one), (ad 5, eI 2 (ca 5) zer), (ad 9, eI 81 (ca 9) ((fo (mc_filf one pin psz (fo (mc_oof pin zer mo) (tpow nn) tb.2.2.2.2.2.2.2.2)) (tpow nn) (0, tb.2.1, tb.2.2.1, tb.2.2.2.1, tb.2.2.2.2.1, tb.2.2.2.2.2.1)).2.1)), (ad 10, eI 81 (ca 10) ((fo (mc_filf one pin psz (fo (mc_oof pin zer mo) (tpow nn) tb.2.2.2.2.2.2.2.2)) (tpow nn) (0, tb.2.1, tb.2.2.1, tb.2.2.2.1, tb.2.2.2.2.1, tb.2.2.2.2.2.1)).2.2.1)), (ad 11, eI 81 (ca 11) ((fo (mc_filf one pin psz (fo (mc_oof pin zer mo) (tpow nn) tb.2.2.2.2.2.2.2.2)) (tpow nn) (0, tb.2.1, tb.2.2.1, tb.2.2.2.1, tb.2.2.2.2.1, tb.2.2.2.2.2.1)).2.2.2.1)), (ad 12, eI 81 (ca 12) ((fo (mc_filf one pin psz (fo (mc_oof pin zer mo) (tpow nn) tb.2.2.2.2.2.2.2.2)) (tpow nn) (0, tb.2.1, tb.2.2.1, tb.2.2.2.1, tb.2.2.2.2.1, tb.2.2.2.2.2.1)).2.2.2.2.1)), (ad 13, eL 81 (ca 13) ((fo (mc_filf one pin psz (fo (mc_oof pin zer mo) (tpow nn) tb.2.2.2.2.2.2.2.2)) (tpow nn) (0, tb.2.1, tb.2.2.1, tb.2.2.2.1, tb.2.2.2.2.1, tb.2.2.2.2.2.1)).2.2.2.2.2)), (ad 14, eI 81 (ca 14) (fo (mc_oof pin zer mo) (tpow nn) tb.2.2.2.2.2.2.2.2)), (ad 15, eI 81 (ca 15) pin), (ad 16, eI 81 (ca 16) psz)]) (va_runV (As := [.int (nI nn), .int (nI mo), .ref (ad 4), .ref (ad 5)]) (rest := []) ⟨hx, hb, hml, hown, hts⟩ (c_fill l dC dI ad ca tP tI (nI tb.1) tb.2.2.2.2.2.2.1 tb.2.2.2.2.2.2.2.1 one zer tb.2.1 tb.2.2.1 tb.2.2.2.1 tb.2.2.2.2.1 tb.2.2.2.2.2.1 tb.2.2.2.2.2.2.2.2 pin psz nn mo hnn hmo _) (cwV 4 hts (gd_V mw_212 mw_213 mw_214 mw_42 mw_215) rfl rfl rfl (by decide +kernel) ⟨Nat.le_of_ble_eq_true rfl, Nat.le_of_ble_eq_true rfl⟩) (kw_VX (q0 := 0) (ci := 0) hKc hPc hDc rfl rfl hX hS (va_free hD hS hA [1, 2, 3, 4, 5, 6, 7, 8, 9, 10, 11, 12] rfl)) rfl rfl hl.1 rfl (lv_room (Nat.le_of_ble_eq_true rfl)) d_H_gather_27 ⟨Nat.zero_le _, Nat.zero_le _⟩) hP hD hS hA [1, 2, 3, 4, 5, 6, 7, 8, 9, 10, 11, 12] [0] rfl rfl (by decide) (by decide) (fun H locs hP hD hS => ?_)
    have hP : va_P (dC, dI) vC [(ad 0, eH ad (nI nn) (nI mo) ga se), (ad 2, eT ad (nI ((fo (mc_filf one pin psz (fo (mc_oof pin zer mo) (tpow nn) tb.2.2.2.2.2.2.2.2)) (tpow nn) (0, tb.2.1, tb.2.2.1, tb.2.2.2.1, tb.2.2.2.2.1, tb.2.2.2.2.2.1)).1)) (fo (mc_plf one 3) 2 0) (mc_lon (fo (mc_filf one pin psz (fo (mc_oof pin zer mo) (tpow nn) tb.2.2.2.2.2.2.2.2)) (tpow nn) (0, tb.2.1, tb.2.2.1, tb.2.2.2.1, tb.2.2.2.2.1, tb.2.2.2.2.2.1)).2.2.2.2.2 (fo (mc_filf one pin psz (fo (mc_oof pin zer mo) (tpow nn) tb.2.2.2.2.2.2.2.2)) (tpow nn) (0, tb.2.1, tb.2.2.1, tb.2.2.2.1, tb.2.2.2.2.1, tb.2.2.2.2.2.1)).1)), (ad 3, eP ad), (ad 4, eI 2 (ca 4) one), (ad 5, eI 2 (ca 5) zer), (ad 9, eI 81 (ca 9) ((fo (mc_filf one pin psz (fo (mc_oof pin zer mo) (tpow nn) tb.2.2.2.2.2.2.2.2)) (tpow nn) (0, tb.2.1, tb.2.2.1, tb.2.2.2.1, tb.2.2.2.2.1, tb.2.2.2.2.2.1)).2.1)), (ad 10, eI 81 (ca 10) ((fo (mc_filf one pin psz (fo (mc_oof pin zer mo) (tpow nn) tb.2.2.2.2.2.2.2.2)) (tpow nn) (0, tb.2.1, tb.2.2.1, tb.2.2.2.1, tb.2.2.2.2.1, tb.2.2.2.2.2.1)).2.2.1)), (ad 11, eI 81 (ca 11) ((fo (mc_filf one pin psz (fo (mc_oof pin zer mo) (tpow nn) tb.2.2.2.2.2.2.2.2)) (tpow nn) (0, tb.2.1, tb.2.2.1, tb.2.2.2.1, tb.2.2.2.2.1, tb.2.2.2.2.2.1)).2.2.2.1)), (ad 12, eI 81 (ca 12) ((fo (mc_filf one pin psz (fo (mc_oof pin zer mo) (tpow nn) tb.2.2.2.2.2.2.2.2)) (tpow nn) (0, tb.2.1, tb.2.2.1, tb.2.2.2.1, tb.2.2.2.2.1, tb.2.2.2.2.2.1)).2.2.2.2.1)), (ad 13, eL 81 (ca 13) ((fo (mc_filf one pin psz (fo (mc_oof pin zer mo) (tpow nn) tb.2.2.2.2.2.2.2.2)) (tpow nn) (0, tb.2.1, tb.2.2.1, tb.2.2.2.1, tb.2.2.2.2.1, tb.2.2.2.2.2.1)).2.2.2.2.2)), (ad 14, eI 81 (ca 14) (fo (mc_oof pin zer mo) (tpow nn) tb.2.2.2.2.2.2.2.2)), (ad 15, eI 81 (ca 15) pin), (ad 16, eI 81 (ca 16) psz)] H := hP
    have hD : va_D A [(ad 0, eH ad (nI nn) (nI mo) ga se), (ad 2, eT ad (nI ((fo (mc_filf one pin psz (fo (mc_oof pin zer mo) (tpow nn) tb.2.2.2.2.2.2.2.2)) (tpow nn) (0, tb.2.1, tb.2.2.1, tb.2.2.2.1, tb.2.2.2.2.1, tb.2.2.2.2.2.1)).1)) (fo (mc_plf one 3) 2 0) (mc_lon (fo (mc_filf one pin psz (fo (mc_oof pin zer mo) (tpow nn) tb.2.2.2.2.2.2.2.2)) (tpow nn) (0, tb.2.1, tb.2.2.1, tb.2.2.2.1, tb.2.2.2.2.1, tb.2.2.2.2.2.1)).2.2.2.2.2 (fo (mc_filf one pin psz (fo (mc_oof pin zer mo) (tpow nn) tb.2.2.2.2.2.2.2.2)) (tpow nn) (0, tb.2.1, tb.2.2.1, tb.2.2.2.1, tb.2.2.2.2.1, tb.2.2.2.2.2.1)).1)), (ad 3, eP ad), (ad 4, eI 2 (ca 4) one), (ad 5, eI 2 (ca 5) zer), (ad 9, eI 81 (ca 9) ((fo (mc_filf one pin psz (fo (mc_oof pin zer mo) (tpow nn) tb.2.2.2.2.2.2.2.2)) (tpow nn) (0, tb.2.1, tb.2.2.1, tb.2.2.2.1, tb.2.2.2.2.1, tb.2.2.2.2.2.1)).2.1)), (ad 10, eI 81 (ca 10) ((fo (mc_filf one pin psz (fo (mc_oof pin zer mo) (tpow nn) tb.2.2.2.2.2.2.2.2)) (tpow nn) (0, tb.2.1, tb.2.2.1, tb.2.2.2.1, tb.2.2.2.2.1, tb.2.2.2.2.2.1)).2.2.1)), (ad 11, eI 81 (ca 11) ((fo (mc_filf one pin psz (fo (mc_oof pin zer mo) (tpow nn) tb.2.2.2.2.2.2.2.2)) (tpow nn) (0, tb.2.1, tb.2.2.1, tb.2.2.2.1, tb.2.2.2.2.1, tb.2.2.2.2.2.1)).2.2.2.1)), (ad 12, eI 81 (ca 12) ((fo (mc_filf one pin psz (fo (mc_oof pin zer mo) (tpow nn) tb.2.2.2.2.2.2.2.2)) (tpow nn) (0, tb.2.1, tb.2.2.1, tb.2.2.2.1, tb.2.2.2.2.1, tb.2.2.2.2.2.1)).2.2.2.2.1)), (ad 13, eL 81 (ca 13) ((fo (mc_filf one pin psz (fo (mc_oof pin zer mo) (tpow nn) tb.2.2.2.2.2.2.2.2)) (tpow nn) (0, tb.2.1, tb.2.2.1, tb.2.2.2.1, tb.2.2.2.2.1, tb.2.2.2.2.2.1)).2.2.2.2.2)), (ad 14, eI 81 (ca 14) (fo (mc_oof pin zer mo) (tpow nn) tb.2.2.2.2.2.2.2.2)), (ad 15, eI 81 (ca 15) pin), (ad 16, eI 81 (ca 16) psz)] := hD
    refine lv_aload_n hx hb d_H_gather_30 rfl (lv_at hl 0 rfl) ?_
    refine lv_iconst (v := 1) hx hb d_H_gather_31 (by decide) ?_
    refine va_put (D := (dC, dI)) (ci := 3) (v := .int 1) (ty := .boolean) (C := R_H) (T := F_H) (N := 8) hx hb hts (hin_of in_H) ft_H tk_H nm_H hown hK hP hD hS 0 rfl rfl 6 (by decide) (hw_of hts mw_185) (fun _ h9 => h9) rfl (by decide +kernel) rfl rfl (Nat.le_of_ble_eq_true rfl) d_H_gather_32 (fun H locs hP hD hS => ?_)
    have hP : va_P (dC, dI) vC [(ad 0, eH ad (nI nn) (nI mo) 1 se), (ad 2, eT ad (nI ((fo (mc_filf one pin psz (fo (mc_oof pin zer mo) (tpow nn) tb.2.2.2.2.2.2.2.2)) (tpow nn) (0, tb.2.1, tb.2.2.1, tb.2.2.2.1, tb.2.2.2.2.1, tb.2.2.2.2.2.1)).1)) (fo (mc_plf one 3) 2 0) (mc_lon (fo (mc_filf one pin psz (fo (mc_oof pin zer mo) (tpow nn) tb.2.2.2.2.2.2.2.2)) (tpow nn) (0, tb.2.1, tb.2.2.1, tb.2.2.2.1, tb.2.2.2.2.1, tb.2.2.2.2.2.1)).2.2.2.2.2 (fo (mc_filf one pin psz (fo (mc_oof pin zer mo) (tpow nn) tb.2.2.2.2.2.2.2.2)) (tpow nn) (0, tb.2.1, tb.2.2.1, tb.2.2.2.1, tb.2.2.2.2.1, tb.2.2.2.2.2.1)).1)), (ad 3, eP ad), (ad 4, eI 2 (ca 4) one), (ad 5, eI 2 (ca 5) zer), (ad 9, eI 81 (ca 9) ((fo (mc_filf one pin psz (fo (mc_oof pin zer mo) (tpow nn) tb.2.2.2.2.2.2.2.2)) (tpow nn) (0, tb.2.1, tb.2.2.1, tb.2.2.2.1, tb.2.2.2.2.1, tb.2.2.2.2.2.1)).2.1)), (ad 10, eI 81 (ca 10) ((fo (mc_filf one pin psz (fo (mc_oof pin zer mo) (tpow nn) tb.2.2.2.2.2.2.2.2)) (tpow nn) (0, tb.2.1, tb.2.2.1, tb.2.2.2.1, tb.2.2.2.2.1, tb.2.2.2.2.2.1)).2.2.1)), (ad 11, eI 81 (ca 11) ((fo (mc_filf one pin psz (fo (mc_oof pin zer mo) (tpow nn) tb.2.2.2.2.2.2.2.2)) (tpow nn) (0, tb.2.1, tb.2.2.1, tb.2.2.2.1, tb.2.2.2.2.1, tb.2.2.2.2.2.1)).2.2.2.1)), (ad 12, eI 81 (ca 12) ((fo (mc_filf one pin psz (fo (mc_oof pin zer mo) (tpow nn) tb.2.2.2.2.2.2.2.2)) (tpow nn) (0, tb.2.1, tb.2.2.1, tb.2.2.2.1, tb.2.2.2.2.1, tb.2.2.2.2.2.1)).2.2.2.2.1)), (ad 13, eL 81 (ca 13) ((fo (mc_filf one pin psz (fo (mc_oof pin zer mo) (tpow nn) tb.2.2.2.2.2.2.2.2)) (tpow nn) (0, tb.2.1, tb.2.2.1, tb.2.2.2.1, tb.2.2.2.2.1, tb.2.2.2.2.2.1)).2.2.2.2.2)), (ad 14, eI 81 (ca 14) (fo (mc_oof pin zer mo) (tpow nn) tb.2.2.2.2.2.2.2.2)), (ad 15, eI 81 (ca 15) pin), (ad 16, eI 81 (ca 16) psz)] H := hP
    have hD : va_D A [(ad 0, eH ad (nI nn) (nI mo) 1 se), (ad 2, eT ad (nI ((fo (mc_filf one pin psz (fo (mc_oof pin zer mo) (tpow nn) tb.2.2.2.2.2.2.2.2)) (tpow nn) (0, tb.2.1, tb.2.2.1, tb.2.2.2.1, tb.2.2.2.2.1, tb.2.2.2.2.2.1)).1)) (fo (mc_plf one 3) 2 0) (mc_lon (fo (mc_filf one pin psz (fo (mc_oof pin zer mo) (tpow nn) tb.2.2.2.2.2.2.2.2)) (tpow nn) (0, tb.2.1, tb.2.2.1, tb.2.2.2.1, tb.2.2.2.2.1, tb.2.2.2.2.2.1)).2.2.2.2.2 (fo (mc_filf one pin psz (fo (mc_oof pin zer mo) (tpow nn) tb.2.2.2.2.2.2.2.2)) (tpow nn) (0, tb.2.1, tb.2.2.1, tb.2.2.2.1, tb.2.2.2.2.1, tb.2.2.2.2.2.1)).1)), (ad 3, eP ad), (ad 4, eI 2 (ca 4) one), (ad 5, eI 2 (ca 5) zer), (ad 9, eI 81 (ca 9) ((fo (mc_filf one pin psz (fo (mc_oof pin zer mo) (tpow nn) tb.2.2.2.2.2.2.2.2)) (tpow nn) (0, tb.2.1, tb.2.2.1, tb.2.2.2.1, tb.2.2.2.2.1, tb.2.2.2.2.2.1)).2.1)), (ad 10, eI 81 (ca 10) ((fo (mc_filf one pin psz (fo (mc_oof pin zer mo) (tpow nn) tb.2.2.2.2.2.2.2.2)) (tpow nn) (0, tb.2.1, tb.2.2.1, tb.2.2.2.1, tb.2.2.2.2.1, tb.2.2.2.2.2.1)).2.2.1)), (ad 11, eI 81 (ca 11) ((fo (mc_filf one pin psz (fo (mc_oof pin zer mo) (tpow nn) tb.2.2.2.2.2.2.2.2)) (tpow nn) (0, tb.2.1, tb.2.2.1, tb.2.2.2.1, tb.2.2.2.2.1, tb.2.2.2.2.2.1)).2.2.2.1)), (ad 12, eI 81 (ca 12) ((fo (mc_filf one pin psz (fo (mc_oof pin zer mo) (tpow nn) tb.2.2.2.2.2.2.2.2)) (tpow nn) (0, tb.2.1, tb.2.2.1, tb.2.2.2.1, tb.2.2.2.2.1, tb.2.2.2.2.2.1)).2.2.2.2.1)), (ad 13, eL 81 (ca 13) ((fo (mc_filf one pin psz (fo (mc_oof pin zer mo) (tpow nn) tb.2.2.2.2.2.2.2.2)) (tpow nn) (0, tb.2.1, tb.2.2.1, tb.2.2.2.1, tb.2.2.2.2.1, tb.2.2.2.2.2.1)).2.2.2.2.2)), (ad 14, eI 81 (ca 14) (fo (mc_oof pin zer mo) (tpow nn) tb.2.2.2.2.2.2.2.2)), (ad 15, eI 81 (ca 15) pin), (ad 16, eI 81 (ca 16) psz)] := hD
    have e_11 : gs ga = 1 := by first | exact if_pos c_4 | exact if_neg c_4 | (rw [htg, m_gath, if_neg c_4]; done) | (rw [htg, m_gath, if_pos c_4]; rfl)
    have e_12 : nI tg.1 = nI ((fo (mc_filf one pin psz (fo (mc_oof pin zer mo) (tpow nn) tb.2.2.2.2.2.2.2.2)) (tpow nn) (0, tb.2.1, tb.2.2.1, tb.2.2.2.1, tb.2.2.2.2.1, tb.2.2.2.2.2.1)).1) := by first | exact if_pos c_4 | exact if_neg c_4 | (rw [htg, m_gath, if_neg c_4]; done) | (rw [htg, m_gath, if_pos c_4]; rfl)
    have e_13 : tg.2.2.2.2.2.2.1 = fo (mc_plf one 3) 2 0 := by first | exact if_pos c_4 | exact if_neg c_4 | (rw [htg, m_gath, if_neg c_4]; done) | (rw [htg, m_gath, if_pos c_4]; rfl)
    have e_14 : tg.2.2.2.2.2.2.2.1 = mc_lon (fo (mc_filf one pin psz (fo (mc_oof pin zer mo) (tpow nn) tb.2.2.2.2.2.2.2.2)) (tpow nn) (0, tb.2.1, tb.2.2.1, tb.2.2.2.1, tb.2.2.2.2.1, tb.2.2.2.2.2.1)).2.2.2.2.2 (fo (mc_filf one pin psz (fo (mc_oof pin zer mo) (tpow nn) tb.2.2.2.2.2.2.2.2)) (tpow nn) (0, tb.2.1, tb.2.2.1, tb.2.2.2.1, tb.2.2.2.2.1, tb.2.2.2.2.2.1)).1 := by first | exact if_pos c_4 | exact if_neg c_4 | (rw [htg, m_gath, if_neg c_4]; done) | (rw [htg, m_gath, if_pos c_4]; rfl)
    have e_15 : tg.2.1 = (fo (mc_filf one pin psz (fo (mc_oof pin zer mo) (tpow nn) tb.2.2.2.2.2.2.2.2)) (tpow nn) (0, tb.2.1, tb.2.2.1, tb.2.2.2.1, tb.2.2.2.2.1, tb.2.2.2.2.2.1)).2.1 := by first | exact if_pos c_4 | exact if_neg c_4 | (rw [htg, m_gath, if_neg c_4]; done) | (rw [htg, m_gath, if_pos c_4]; rfl)
    have e_16 : tg.2.2.1 = (fo (mc_filf one pin psz (fo (mc_oof pin zer mo) (tpow nn) tb.2.2.2.2.2.2.2.2)) (tpow nn) (0, tb.2.1, tb.2.2.1, tb.2.2.2.1, tb.2.2.2.2.1, tb.2.2.2.2.2.1)).2.2.1 := by first | exact if_pos c_4 | exact if_neg c_4 | (rw [htg, m_gath, if_neg c_4]; done) | (rw [htg, m_gath, if_pos c_4]; rfl)
    have e_17 : tg.2.2.2.1 = (fo (mc_filf one pin psz (fo (mc_oof pin zer mo) (tpow nn) tb.2.2.2.2.2.2.2.2)) (tpow nn) (0, tb.2.1, tb.2.2.1, tb.2.2.2.1, tb.2.2.2.2.1, tb.2.2.2.2.2.1)).2.2.2.1 := by first | exact if_pos c_4 | exact if_neg c_4 | (rw [htg, m_gath, if_neg c_4]; done) | (rw [htg, m_gath, if_pos c_4]; rfl)
    have e_18 : tg.2.2.2.2.1 = (fo (mc_filf one pin psz (fo (mc_oof pin zer mo) (tpow nn) tb.2.2.2.2.2.2.2.2)) (tpow nn) (0, tb.2.1, tb.2.2.1, tb.2.2.2.1, tb.2.2.2.2.1, tb.2.2.2.2.2.1)).2.2.2.2.1 := by first | exact if_pos c_4 | exact if_neg c_4 | (rw [htg, m_gath, if_neg c_4]; done) | (rw [htg, m_gath, if_pos c_4]; rfl)
    have e_19 : tg.2.2.2.2.2.1 = (fo (mc_filf one pin psz (fo (mc_oof pin zer mo) (tpow nn) tb.2.2.2.2.2.2.2.2)) (tpow nn) (0, tb.2.1, tb.2.2.1, tb.2.2.2.1, tb.2.2.2.2.1, tb.2.2.2.2.2.1)).2.2.2.2.2 := by first | exact if_pos c_4 | exact if_neg c_4 | (rw [htg, m_gath, if_neg c_4]; done) | (rw [htg, m_gath, if_pos c_4]; rfl)
    have e_20 : tg.2.2.2.2.2.2.2.2 = (fo (mc_oof pin zer mo) (tpow nn) tb.2.2.2.2.2.2.2.2) := by first | exact if_pos c_4 | exact if_neg c_4 | (rw [htg, m_gath, if_neg c_4]; done) | (rw [htg, m_gath, if_pos c_4]; rfl)
    exact W.vret hx hb hr (fun t ht hW => by (try rw [e_11]); (try rw [e_12]); (try rw [e_13]); (try rw [e_14]); (try rw [e_15]); (try rw [e_16]); (try rw [e_17]); (try rw [e_18]); (try rw [e_19]); (try rw [e_20]); exact kw_endv hP hD hK hS [0, 1, 2, 3, 4, 5, 6, 7, 8, 9, 10, 11, 12] rfl (by decide) rfl ht hW.alike) hS.2.2 d_H_gather_35
set_option maxHeartbeats 4000000 in
set_option maxRecDepth 100000 in
theorem c_solve (l : Launch) (dC : Nat → ClassId) (dI : Nat → Nat → Nat) (ad : Nat → Nat) (ca : Nat → ClassId) (tP tI : Nat) (nn : Nat) (mo : Nat) (hnn : nn ≤ 4) (hmo : mo ≤ 2) (ga : Int32) (se : Int32) (one : Nat → Int32) (zer : Nat → Int32) (pin : Nat → Int32) (psz : Nat → Int32) (tb : TB) (tg : TB) (htg : tg = m_gath ga nn mo one zer pin psz tb) (sb : SB) (sg : SB) (hsg : sg = m_solv se tg sb) (h63 : tg.1 ≤ 63) (sz : Nat) : Met l y_H_solve w_H_solve ({ frames := 40, cells := 0, slots := 0, locals := 1400 }) (kw_PX tP tI [.ref (ad 0)] sz (dC, dI) vC [(ad 0, eH ad (nI nn) (nI mo) ga se), (ad 2, eT ad (nI tb.1) tb.2.2.2.2.2.2.1 tb.2.2.2.2.2.2.2.1), (ad 3, eP ad), (ad 4, eI 2 (ca 4) one), (ad 5, eI 2 (ca 5) zer), (ad 9, eI 81 (ca 9) tb.2.1), (ad 10, eI 81 (ca 10) tb.2.2.1), (ad 11, eI 81 (ca 11) tb.2.2.2.1), (ad 12, eI 81 (ca 12) tb.2.2.2.2.1), (ad 13, eL 81 (ca 13) tb.2.2.2.2.2.1), (ad 14, eI 81 (ca 14) tb.2.2.2.2.2.2.2.2), (ad 15, eI 81 (ca 15) pin), (ad 16, eI 81 (ca 16) psz), (ad 1, eS ad (nI sb.2.1) sb.2.2.1 sb.2.2.2.2.2.1 sb.2.2.2.2.2.2), (ad 6, eI 81 (ca 6) sb.1), (ad 7, eI 81 (ca 7) sb.2.2.2.1), (ad 8, eL 32 (ca 8) sb.2.2.2.2.1)] [(ca 4, .int), (ca 5, .int), (ca 9, .int), (ca 10, .int), (ca 11, .int), (ca 12, .int), (ca 13, .long), (ca 14, .int), (ca 15, .int), (ca 16, .int), (ca 6, .int), (ca 7, .int), (ca 8, .long)]) (kw_Qv (dC, dI) vC [(ca 4, .int), (ca 5, .int), (ca 9, .int), (ca 10, .int), (ca 11, .int), (ca 12, .int), (ca 13, .long), (ca 14, .int), (ca 15, .int), (ca 16, .int), (ca 6, .int), (ca 7, .int), (ca 8, .long)] (va_A [(ad 0, eH ad (nI nn) (nI mo) ga se), (ad 2, eT ad (nI tb.1) tb.2.2.2.2.2.2.1 tb.2.2.2.2.2.2.2.1), (ad 3, eP ad), (ad 4, eI 2 (ca 4) one), (ad 5, eI 2 (ca 5) zer), (ad 9, eI 81 (ca 9) tb.2.1), (ad 10, eI 81 (ca 10) tb.2.2.1), (ad 11, eI 81 (ca 11) tb.2.2.2.1), (ad 12, eI 81 (ca 12) tb.2.2.2.2.1), (ad 13, eL 81 (ca 13) tb.2.2.2.2.2.1), (ad 14, eI 81 (ca 14) tb.2.2.2.2.2.2.2.2), (ad 15, eI 81 (ca 15) pin), (ad 16, eI 81 (ca 16) psz), (ad 1, eS ad (nI sb.2.1) sb.2.2.1 sb.2.2.2.2.2.1 sb.2.2.2.2.2.2), (ad 6, eI 81 (ca 6) sb.1), (ad 7, eI 81 (ca 7) sb.2.2.2.1), (ad 8, eL 32 (ca 8) sb.2.2.2.2.1)] sz) [(ad 0, eH ad (nI nn) (nI mo) (gs ga) (gs se)), (ad 2, eT ad (nI tg.1) tg.2.2.2.2.2.2.1 tg.2.2.2.2.2.2.2.1), (ad 3, eP ad), (ad 4, eI 2 (ca 4) one), (ad 5, eI 2 (ca 5) zer), (ad 9, eI 81 (ca 9) tg.2.1), (ad 10, eI 81 (ca 10) tg.2.2.1), (ad 11, eI 81 (ca 11) tg.2.2.2.1), (ad 12, eI 81 (ca 12) tg.2.2.2.2.1), (ad 13, eL 81 (ca 13) tg.2.2.2.2.2.1), (ad 14, eI 81 (ca 14) tg.2.2.2.2.2.2.2.2), (ad 15, eI 81 (ca 15) pin), (ad 16, eI 81 (ca 16) psz), (ad 1, eS ad (nI sg.2.1) sg.2.2.1 sg.2.2.2.2.2.1 sg.2.2.2.2.2.2), (ad 6, eI 81 (ca 6) sg.1), (ad 7, eI 81 (ca 7) sg.2.2.2.1), (ad 8, eL 32 (ca 8) sg.2.2.2.2.1)]) 0 0 (va_A [(ad 0, eH ad (nI nn) (nI mo) ga se), (ad 2, eT ad (nI tb.1) tb.2.2.2.2.2.2.1 tb.2.2.2.2.2.2.2.1), (ad 3, eP ad), (ad 4, eI 2 (ca 4) one), (ad 5, eI 2 (ca 5) zer), (ad 9, eI 81 (ca 9) tb.2.1), (ad 10, eI 81 (ca 10) tb.2.2.1), (ad 11, eI 81 (ca 11) tb.2.2.2.1), (ad 12, eI 81 (ca 12) tb.2.2.2.2.1), (ad 13, eL 81 (ca 13) tb.2.2.2.2.2.1), (ad 14, eI 81 (ca 14) tb.2.2.2.2.2.2.2.2), (ad 15, eI 81 (ca 15) pin), (ad 16, eI 81 (ca 16) psz), (ad 1, eS ad (nI sb.2.1) sb.2.2.1 sb.2.2.2.2.2.1 sb.2.2.2.2.2.2), (ad 6, eI 81 (ca 6) sb.1), (ad 7, eI 81 (ca 7) sb.2.2.2.1), (ad 8, eL 32 (ca 8) sb.2.2.2.2.1)] sz) := by
  refine Met.ofW (cc := b_H_solve) (maxL := 1) (ret := none) (by decide) rfl ?_
  intro p e s m args below meth c s₁ B hml hv
  obtain ⟨⟨rfl, hsz, hP, hK, hD0⟩, hX⟩ := hv
  have hx := B.exec
  have hb := B.bytes
  have hr := B.returns
  have hts := atoms_spec (ws := w_H_solve) B.pre
  have hlocks := B.notSynchronized
  have hown : s.vm.findClass R_H = some m.cls := findClass_of_methodNamed B.named
  subst hsz
  have hD := hD0.self (sz := s.heap.size)
  generalize hAe : va_A [(ad 0, eH ad (nI nn) (nI mo) ga se), (ad 2, eT ad (nI tb.1) tb.2.2.2.2.2.2.1 tb.2.2.2.2.2.2.2.1), (ad 3, eP ad), (ad 4, eI 2 (ca 4) one), (ad 5, eI 2 (ca 5) zer), (ad 9, eI 81 (ca 9) tb.2.1), (ad 10, eI 81 (ca 10) tb.2.2.1), (ad 11, eI 81 (ca 11) tb.2.2.2.1), (ad 12, eI 81 (ca 12) tb.2.2.2.2.1), (ad 13, eL 81 (ca 13) tb.2.2.2.2.2.1), (ad 14, eI 81 (ca 14) tb.2.2.2.2.2.2.2.2), (ad 15, eI 81 (ca 15) pin), (ad 16, eI 81 (ca 16) psz), (ad 1, eS ad (nI sb.2.1) sb.2.2.1 sb.2.2.2.2.2.1 sb.2.2.2.2.2.2), (ad 6, eI 81 (ca 6) sb.1), (ad 7, eI 81 (ca 7) sb.2.2.2.1), (ad 8, eL 32 (ca 8) sb.2.2.2.2.1)] s.heap.size = A at hD hX ⊢
  have hA : ∀ q : Nat, s.heap.size ≤ q → A q := fun q h => by rw [← hAe]; exact Or.inr h
  have hS : va_S A s.heap s.heap [] := va_S.rf
  have hP : va_P (dC, dI) vC [(ad 0, eH ad (nI nn) (nI mo) ga se), (ad 2, eT ad (nI tb.1) tb.2.2.2.2.2.2.1 tb.2.2.2.2.2.2.2.1), (ad 3, eP ad), (ad 4, eI 2 (ca 4) one), (ad 5, eI 2 (ca 5) zer), (ad 9, eI 81 (ca 9) tb.2.1), (ad 10, eI 81 (ca 10) tb.2.2.1), (ad 11, eI 81 (ca 11) tb.2.2.2.1), (ad 12, eI 81 (ca 12) tb.2.2.2.2.1), (ad 13, eL 81 (ca 13) tb.2.2.2.2.2.1), (ad 14, eI 81 (ca 14) tb.2.2.2.2.2.2.2.2), (ad 15, eI 81 (ca 15) pin), (ad 16, eI 81 (ca 16) psz), (ad 1, eS ad (nI sb.2.1) sb.2.2.1 sb.2.2.2.2.2.1 sb.2.2.2.2.2.2), (ad 6, eI 81 (ca 6) sb.1), (ad 7, eI 81 (ca 7) sb.2.2.2.1), (ad 8, eL 32 (ca 8) sb.2.2.2.2.1)] s.heap := hP
  have hl := lv_entry ([.ref (ad 0)]) (n := 1) (Nat.le_of_ble_eq_true rfl)
  rw [lg_entry_eq]
  generalize (lg_sl ([.ref (ad 0)]) ++ List.replicate (1 - (lg_sl ([.ref (ad 0)])).length) Slot.unset).toArray = ls at hl ⊢
  have hl : lv_has ls 1 [(0, .ref (ad 0))] := hl
  refine lv_aload_n hx hb d_H_solve_0 rfl (lv_at hl 0 rfl) ?_
  have hPc := hP.sub (ws' := [(ad 0, eH ad (nI nn) (nI mo) ga se), (ad 2, eT ad (nI tb.1) tb.2.2.2.2.2.2.1 tb.2.2.2.2.2.2.2.1), (ad 3, eP ad), (ad 4, eI 2 (ca 4) one), (ad 5, eI 2 (ca 5) zer), (ad 9, eI 81 (ca 9) tb.2.1), (ad 10, eI 81 (ca 10) tb.2.2.1), (ad 11, eI 81 (ca 11) tb.2.2.2.1), (ad 12, eI 81 (ca 12) tb.2.2.2.2.1), (ad 13, eL 81 (ca 13) tb.2.2.2.2.2.1), (ad 14, eI 81 (ca 14) tb.2.2.2.2.2.2.2.2), (ad 15, eI 81 (ca 15) pin), (ad 16, eI 81 (ca 16) psz)]) [0, 1, 2, 3, 4, 5, 6, 7, 8, 9, 10, 11, 12] rfl
  have hDc := hD.sub (ws' := [(ad 0, eH ad (nI nn) (nI mo) ga se), (ad 2, eT ad (nI tb.1) tb.2.2.2.2.2.2.1 tb.2.2.2.2.2.2.2.1), (ad 3, eP ad), (ad 4, eI 2 (ca 4) one), (ad 5, eI 2 (ca 5) zer), (ad 9, eI 81 (ca 9) tb.2.1), (ad 10, eI 81 (ca 10) tb.2.2.1), (ad 11, eI 81 (ca 11) tb.2.2.2.1), (ad 12, eI 81 (ca 12) tb.2.2.2.2.1), (ad 13, eL 81 (ca 13) tb.2.2.2.2.2.1), (ad 14, eI 81 (ca 14) tb.2.2.2.2.2.2.2.2), (ad 15, eI 81 (ca 15) pin), (ad 16, eI 81 (ca 16) psz)]) [0, 1, 2, 3, 4, 5, 6, 7, 8, 9, 10, 11, 12] (by decide) rfl
  have hKc := hK.sub (tys' := [(ca 4, .int), (ca 5, .int), (ca 9, .int), (ca 10, .int), (ca 11, .int), (ca 12, .int), (ca 13, .long), (ca 14, .int), (ca 15, .int), (ca 16, .int)]) [0, 1, 2, 3, 4, 5, 6, 7, 8, 9] rfl
  refine kw_callv (wr := [(ad 1, eS ad (nI sb.2.1) sb.2.2.1 sb.2.2.2.2.2.1 sb.2.2.2.2.2.2), (ad 6, eI 81 (ca 6) sb.1), (ad 7, eI 81 (ca 7) sb.2.2.2.1), (ad 8, eL 32 (ca 8) sb.2.2.2.2.1)]) (wf := [(ad 0, eH ad (nI nn) (nI mo) (gs ga) se), (ad 2, eT ad (nI tg.1) tg.2.2.2.2.2.2.1 tg.2.2.2.2.2.2.2.1), (ad 3, eP ad), (ad 4, eI 2 (ca 4) one), (ad 5, eI 2 (ca 5) zer), (ad 9, eI 81 (ca 9) tg.2.1), (ad 10, eI 81 (ca 10) tg.2.2.1), (ad 11, eI 81 (ca 11) tg.2.2.2.1), (ad 12, eI 81 (ca 12) tg.2.2.2.2.1), (ad 13, eL 81 (ca 13) tg.2.2.2.2.2.1), (ad 14, eI 81 (ca 14) tg.2.2.2.2.2.2.2.2), (ad 15, eI 81 (ca 15) pin), (ad 16, eI 81 (ca 16) psz)]) (va_runV (As := []) (rest := []) ⟨hx, hb, hml, hown, hts⟩ (c_gather l dC dI ad ca tP tI nn mo hnn hmo ga se one zer pin psz tb tg htg _) (cwV 0 hts (gd_V mw_208 mw_210 mw_4 mw_40 mw_211) rfl rfl rfl (by decide +kernel) ⟨Nat.le_of_ble_eq_true rfl, Nat.le_of_ble_eq_true rfl⟩) (kw_VX (q0 := 0) (ci := 3) hKc hPc hDc rfl rfl hX hS (va_free hD hS hA [0, 1, 2, 3, 4, 5, 6, 7, 8, 9, 10, 11, 12] rfl)) rfl rfl hl.1 rfl (lv_room (Nat.le_of_ble_eq_true rfl)) d_H_solve_1 ⟨Nat.zero_le _, Nat.zero_le _⟩) hP hD hS hA [0, 1, 2, 3, 4, 5, 6, 7, 8, 9, 10, 11, 12] [13, 14, 15, 16] rfl rfl (by decide) (by decide) (fun H locs hP hD hS => ?_)
  have hP : va_P (dC, dI) vC [(ad 1, eS ad (nI sb.2.1) sb.2.2.1 sb.2.2.2.2.2.1 sb.2.2.2.2.2.2), (ad 6, eI 81 (ca 6) sb.1), (ad 7, eI 81 (ca 7) sb.2.2.2.1), (ad 8, eL 32 (ca 8) sb.2.2.2.2.1), (ad 0, eH ad (nI nn) (nI mo) (gs ga) se), (ad 2, eT ad (nI tg.1) tg.2.2.2.2.2.2.1 tg.2.2.2.2.2.2.2.1), (ad 3, eP ad), (ad 4, eI 2 (ca 4) one), (ad 5, eI 2 (ca 5) zer), (ad 9, eI 81 (ca 9) tg.2.1), (ad 10, eI 81 (ca 10) tg.2.2.1), (ad 11, eI 81 (ca 11) tg.2.2.2.1), (ad 12, eI 81 (ca 12) tg.2.2.2.2.1), (ad 13, eL 81 (ca 13) tg.2.2.2.2.2.1), (ad 14, eI 81 (ca 14) tg.2.2.2.2.2.2.2.2), (ad 15, eI 81 (ca 15) pin), (ad 16, eI 81 (ca 16) psz)] H := hP
  have hD : va_D A [(ad 1, eS ad (nI sb.2.1) sb.2.2.1 sb.2.2.2.2.2.1 sb.2.2.2.2.2.2), (ad 6, eI 81 (ca 6) sb.1), (ad 7, eI 81 (ca 7) sb.2.2.2.1), (ad 8, eL 32 (ca 8) sb.2.2.2.2.1), (ad 0, eH ad (nI nn) (nI mo) (gs ga) se), (ad 2, eT ad (nI tg.1) tg.2.2.2.2.2.2.1 tg.2.2.2.2.2.2.2.1), (ad 3, eP ad), (ad 4, eI 2 (ca 4) one), (ad 5, eI 2 (ca 5) zer), (ad 9, eI 81 (ca 9) tg.2.1), (ad 10, eI 81 (ca 10) tg.2.2.1), (ad 11, eI 81 (ca 11) tg.2.2.2.1), (ad 12, eI 81 (ca 12) tg.2.2.2.2.1), (ad 13, eL 81 (ca 13) tg.2.2.2.2.2.1), (ad 14, eI 81 (ca 14) tg.2.2.2.2.2.2.2.2), (ad 15, eI 81 (ca 15) pin), (ad 16, eI 81 (ca 16) psz)] := hD
  refine lv_aload_n hx hb d_H_solve_4 rfl (lv_at hl 0 rfl) ?_
  refine va_get (D := (dC, dI)) (ci := 3) (v := .int se) (C := R_H) (T := F_H) (N := 8) hx hb hts (hin_of in_H) hown hK hP 4 rfl rfl 7 (by decide) (hw_of hts mw_186) (fun _ h9 => h9) rfl d_H_solve_5 ?_
  refine lv_if_ne (tgt := 23) hx hb d_H_solve_8 (by decide) (fun c_8 => ?_) (fun c_8 => ?_)
  · have e_1 : gs se = se := by first | exact if_pos c_8 | exact if_neg c_8 | (rw [hsg, m_solv, if_neg c_8]; done) | (rw [hsg, m_solv, if_pos c_8]; rfl)
    have e_2 : nI sg.2.1 = nI sb.2.1 := by first | exact if_pos c_8 | exact if_neg c_8 | (rw [hsg, m_solv, if_neg c_8]; done) | (rw [hsg, m_solv, if_pos c_8]; rfl)
    have e_3 : sg.2.2.1 = sb.2.2.1 := by first | exact if_pos c_8 | exact if_neg c_8 | (rw [hsg, m_solv, if_neg c_8]; done) | (rw [hsg, m_solv, if_pos c_8]; rfl)
    have e_4 : sg.2.2.2.2.2.1 = sb.2.2.2.2.2.1 := by first | exact if_pos c_8 | exact if_neg c_8 | (rw [hsg, m_solv, if_neg c_8]; done) | (rw [hsg, m_solv, if_pos c_8]; rfl)
    have e_5 : sg.2.2.2.2.2.2 = sb.2.2.2.2.2.2 := by first | exact if_pos c_8 | exact if_neg c_8 | (rw [hsg, m_solv, if_neg c_8]; done) | (rw [hsg, m_solv, if_pos c_8]; rfl)
    have e_6 : sg.1 = sb.1 := by first | exact if_pos c_8 | exact if_neg c_8 | (rw [hsg, m_solv, if_neg c_8]; done) | (rw [hsg, m_solv, if_pos c_8]; rfl)
    have e_7 : sg.2.2.2.1 = sb.2.2.2.1 := by first | exact if_pos c_8 | exact if_neg c_8 | (rw [hsg, m_solv, if_neg c_8]; done) | (rw [hsg, m_solv, if_pos c_8]; rfl)
    have e_8 : sg.2.2.2.2.1 = sb.2.2.2.2.1 := by first | exact if_pos c_8 | exact if_neg c_8 | (rw [hsg, m_solv, if_neg c_8]; done) | (rw [hsg, m_solv, if_pos c_8]; rfl)
    exact W.vret hx hb hr (fun t ht hW => by (try rw [e_1]); (try rw [e_2]); (try rw [e_3]); (try rw [e_4]); (try rw [e_5]); (try rw [e_6]); (try rw [e_7]); (try rw [e_8]); exact kw_endv hP hD hK hS [4, 5, 6, 7, 8, 9, 10, 11, 12, 13, 14, 15, 16, 0, 1, 2, 3] rfl (by decide) rfl ht hW.alike) hS.2.2 d_H_solve_23
  · refine lv_aload_n hx hb d_H_solve_11 rfl (lv_at hl 0 rfl) ?_
    refine va_get (D := (dC, dI)) (ci := 3) (v := .ref (ad 1)) (C := R_H) (T := F_H) (N := 8) hx hb hts (hin_of in_H) hown hK hP 4 rfl rfl 2 (by decide) (hw_of hts mw_181) (fun _ h9 => h9) rfl d_H_solve_12 ?_
    have hPc := hP.sub (ws' := [(ad 1, eS ad (nI sb.2.1) sb.2.2.1 sb.2.2.2.2.2.1 sb.2.2.2.2.2.2), (ad 2, eT ad (nI tg.1) tg.2.2.2.2.2.2.1 tg.2.2.2.2.2.2.2.1), (ad 6, eI 81 (ca 6) sb.1), (ad 7, eI 81 (ca 7) sb.2.2.2.1), (ad 8, eL 32 (ca 8) sb.2.2.2.2.1), (ad 11, eI 81 (ca 11) tg.2.2.2.1), (ad 13, eL 81 (ca 13) tg.2.2.2.2.2.1)]) [0, 5, 1, 2, 3, 11, 13] rfl
    have hDc := hD.sub (ws' := [(ad 1, eS ad (nI sb.2.1) sb.2.2.1 sb.2.2.2.2.2.1 sb.2.2.2.2.2.2), (ad 2, eT ad (nI tg.1) tg.2.2.2.2.2.2.1 tg.2.2.2.2.2.2.2.1), (ad 6, eI 81 (ca 6) sb.1), (ad 7, eI 81 (ca 7) sb.2.2.2.1), (ad 8, eL 32 (ca 8) sb.2.2.2.2.1), (ad 11, eI 81 (ca 11) tg.2.2.2.1), (ad 13, eL 81 (ca 13) tg.2.2.2.2.2.1)]) [0, 5, 1, 2, 3, 11, 13] (by decide) rfl
    have hKc := hK.sub (tys' := [(ca 6, .int), (ca 7, .int), (ca 8, .long), (ca 11, .int), (ca 13, .long)]) [10, 11, 12, 4, 6] rfl
    refine kw_callv (wr := [(ad 0, eH ad (nI nn) (nI mo) (gs ga) se), (ad 3, eP ad), (ad 4, eI 2 (ca 4) one), (ad 5, eI 2 (ca 5) zer), (ad 9, eI 81 (ca 9) tg.2.1), (ad 10, eI 81 (ca 10) tg.2.2.1), (ad 12, eI 81 (ca 12) tg.2.2.2.2.1), (ad 14, eI 81 (ca 14) tg.2.2.2.2.2.2.2.2), (ad 15, eI 81 (ca 15) pin), (ad 16, eI 81 (ca 16) psz)]) (wf := [(ad 1, eS ad (nI ((fo (mc_lbf (m_ext m_pop tg.1 tg.2.2.2.2.2.1 (fo (mc_wef tg.2.2.2.1) tg.1 sb.2.2.2.1) (fo (mc_sef tg.2.2.2.2.2.1 tg.1) 32 sb.2.2.2.2.1) 32 tg.2.2.2.2.2.2.1 (zo tg.1 - 1) 0 0 (1000000, 0)).2 tg.2.2.2.1) tg.1 (sb.1, 0, 0)).2.1)) ((fo (mc_lbf (m_ext m_pop tg.1 tg.2.2.2.2.2.1 (fo (mc_wef tg.2.2.2.1) tg.1 sb.2.2.2.1) (fo (mc_sef tg.2.2.2.2.2.1 tg.1) 32 sb.2.2.2.2.1) 32 tg.2.2.2.2.2.2.1 (zo tg.1 - 1) 0 0 (1000000, 0)).2 tg.2.2.2.1) tg.1 (sb.1, 0, 0)).2.2) ((m_ext m_pop tg.1 tg.2.2.2.2.2.1 (fo (mc_wef tg.2.2.2.1) tg.1 sb.2.2.2.1) (fo (mc_sef tg.2.2.2.2.2.1 tg.1) 32 sb.2.2.2.2.1) 32 tg.2.2.2.2.2.2.1 (zo tg.1 - 1) 0 0 (1000000, 0)).1) ((m_ext m_pop tg.1 tg.2.2.2.2.2.1 (fo (mc_wef tg.2.2.2.1) tg.1 sb.2.2.2.1) (fo (mc_sef tg.2.2.2.2.2.1 tg.1) 32 sb.2.2.2.2.1) 32 tg.2.2.2.2.2.2.1 (zo tg.1 - 1) 0 0 (1000000, 0)).2)), (ad 2, eT ad (nI tg.1) tg.2.2.2.2.2.2.1 tg.2.2.2.2.2.2.2.1), (ad 6, eI 81 (ca 6) ((fo (mc_lbf (m_ext m_pop tg.1 tg.2.2.2.2.2.1 (fo (mc_wef tg.2.2.2.1) tg.1 sb.2.2.2.1) (fo (mc_sef tg.2.2.2.2.2.1 tg.1) 32 sb.2.2.2.2.1) 32 tg.2.2.2.2.2.2.1 (zo tg.1 - 1) 0 0 (1000000, 0)).2 tg.2.2.2.1) tg.1 (sb.1, 0, 0)).1)), (ad 7, eI 81 (ca 7) (fo (mc_wef tg.2.2.2.1) tg.1 sb.2.2.2.1)), (ad 8, eL 32 (ca 8) (fo (mc_sef tg.2.2.2.2.2.1 tg.1) 32 sb.2.2.2.2.1)), (ad 11, eI 81 (ca 11) tg.2.2.2.1), (ad 13, eL 81 (ca 13) tg.2.2.2.2.2.1)]) (va_runV (As := []) (rest := []) ⟨hx, hb, hml, hown, hts⟩ (c_findLeast l dC dI ad ca (nI sb.2.1) sb.2.2.1 sb.2.2.2.2.2.1 sb.2.2.2.2.2.2 tg.1 h63 tg.2.2.2.2.2.2.1 tg.2.2.2.2.2.2.2.1 sb.1 sb.2.2.2.1 sb.2.2.2.2.1 tg.2.2.2.1 tg.2.2.2.2.2.1 _) (cwV 0 hts (gd_V mw_251 mw_252 mw_253 mw_41 mw_254) rfl rfl rfl (by decide +kernel) ⟨Nat.le_of_ble_eq_true rfl, Nat.le_of_ble_eq_true rfl⟩) (kw_V (q0 := 0) (ci := 2) hKc hPc hDc rfl rfl) rfl rfl hl.1 rfl (lv_room (Nat.le_of_ble_eq_true rfl)) d_H_solve_15 ⟨Nat.zero_le _, Nat.zero_le _⟩) hP hD hS hA [0, 5, 1, 2, 3, 11, 13] [4, 6, 7, 8, 9, 10, 12, 14, 15, 16] rfl rfl (by decide) (by decide) (fun H locs hP hD hS => ?_)
    have hP : va_P (dC, dI) vC [(ad 0, eH ad (nI nn) (nI mo) (gs ga) se), (ad 3, eP ad), (ad 4, eI 2 (ca 4) one), (ad 5, eI 2 (ca 5) zer), (ad 9, eI 81 (ca 9) tg.2.1), (ad 10, eI 81 (ca 10) tg.2.2.1), (ad 12, eI 81 (ca 12) tg.2.2.2.2.1), (ad 14, eI 81 (ca 14) tg.2.2.2.2.2.2.2.2), (ad 15, eI 81 (ca 15) pin), (ad 16, eI 81 (ca 16) psz), (ad 1, eS ad (nI ((fo (mc_lbf (m_ext m_pop tg.1 tg.2.2.2.2.2.1 (fo (mc_wef tg.2.2.2.1) tg.1 sb.2.2.2.1) (fo (mc_sef tg.2.2.2.2.2.1 tg.1) 32 sb.2.2.2.2.1) 32 tg.2.2.2.2.2.2.1 (zo tg.1 - 1) 0 0 (1000000, 0)).2 tg.2.2.2.1) tg.1 (sb.1, 0, 0)).2.1)) ((fo (mc_lbf (m_ext m_pop tg.1 tg.2.2.2.2.2.1 (fo (mc_wef tg.2.2.2.1) tg.1 sb.2.2.2.1) (fo (mc_sef tg.2.2.2.2.2.1 tg.1) 32 sb.2.2.2.2.1) 32 tg.2.2.2.2.2.2.1 (zo tg.1 - 1) 0 0 (1000000, 0)).2 tg.2.2.2.1) tg.1 (sb.1, 0, 0)).2.2) ((m_ext m_pop tg.1 tg.2.2.2.2.2.1 (fo (mc_wef tg.2.2.2.1) tg.1 sb.2.2.2.1) (fo (mc_sef tg.2.2.2.2.2.1 tg.1) 32 sb.2.2.2.2.1) 32 tg.2.2.2.2.2.2.1 (zo tg.1 - 1) 0 0 (1000000, 0)).1) ((m_ext m_pop tg.1 tg.2.2.2.2.2.1 (fo (mc_wef tg.2.2.2.1) tg.1 sb.2.2.2.1) (fo (mc_sef tg.2.2.2.2.2.1 tg.1) 32 sb.2.2.2.2.1) 32 tg.2.2.2.2.2.2.1 (zo tg.1 - 1) 0 0 (1000000, 0)).2)), (ad 2, eT ad (nI tg.1) tg.2.2.2.2.2.2.1 tg.2.2.2.2.2.2.2.1), (ad 6, eI 81 (ca 6) ((fo (mc_lbf (m_ext m_pop tg.1 tg.2.2.2.2.2.1 (fo (mc_wef tg.2.2.2.1) tg.1 sb.2.2.2.1) (fo (mc_sef tg.2.2.2.2.2.1 tg.1) 32 sb.2.2.2.2.1) 32 tg.2.2.2.2.2.2.1 (zo tg.1 - 1) 0 0 (1000000, 0)).2 tg.2.2.2.1) tg.1 (sb.1, 0, 0)).1)), (ad 7, eI 81 (ca 7) (fo (mc_wef tg.2.2.2.1) tg.1 sb.2.2.2.1)), (ad 8, eL 32 (ca 8) (fo (mc_sef tg.2.2.2.2.2.1 tg.1) 32 sb.2.2.2.2.1)), (ad 11, eI 81 (ca 11) tg.2.2.2.1), (ad 13, eL 81 (ca 13) tg.2.2.2.2.2.1)] H := hP
    have hD : va_D A [(ad 0, eH ad (nI nn) (nI mo) (gs ga) se), (ad 3, eP ad), (ad 4, eI 2 (ca 4) one), (ad 5, eI 2 (ca 5) zer), (ad 9, eI 81 (ca 9) tg.2.1), (ad 10, eI 81 (ca 10) tg.2.2.1), (ad 12, eI 81 (ca 12) tg.2.2.2.2.1), (ad 14, eI 81 (ca 14) tg.2.2.2.2.2.2.2.2), (ad 15, eI 81 (ca 15) pin), (ad 16, eI 81 (ca 16) psz), (ad 1, eS ad (nI ((fo (mc_lbf (m_ext m_pop tg.1 tg.2.2.2.2.2.1 (fo (mc_wef tg.2.2.2.1) tg.1 sb.2.2.2.1) (fo (mc_sef tg.2.2.2.2.2.1 tg.1) 32 sb.2.2.2.2.1) 32 tg.2.2.2.2.2.2.1 (zo tg.1 - 1) 0 0 (1000000, 0)).2 tg.2.2.2.1) tg.1 (sb.1, 0, 0)).2.1)) ((fo (mc_lbf (m_ext m_pop tg.1 tg.2.2.2.2.2.1 (fo (mc_wef tg.2.2.2.1) tg.1 sb.2.2.2.1) (fo (mc_sef tg.2.2.2.2.2.1 tg.1) 32 sb.2.2.2.2.1) 32 tg.2.2.2.2.2.2.1 (zo tg.1 - 1) 0 0 (1000000, 0)).2 tg.2.2.2.1) tg.1 (sb.1, 0, 0)).2.2) ((m_ext m_pop tg.1 tg.2.2.2.2.2.1 (fo (mc_wef tg.2.2.2.1) tg.1 sb.2.2.2.1) (fo (mc_sef tg.2.2.2.2.2.1 tg.1) 32 sb.2.2.2.2.1) 32 tg.2.2.2.2.2.2.1 (zo tg.1 - 1) 0 0 (1000000, 0)).1) ((m_ext m_pop tg.1 tg.2.2.2.2.2.1 (fo (mc_wef tg.2.2.2.1) tg.1 sb.2.2.2.1) (fo (mc_sef tg.2.2.2.2.2.1 tg.1) 32 sb.2.2.2.2.1) 32 tg.2.2.2.2.2.2.1 (zo tg.1 - 1) 0 0 (1000000, 0)).2)), (ad 2, eT ad (nI tg.1) tg.2.2.2.2.2.2.1 tg.2.2.2.2.2.2.2.1), (ad 6, eI 81 (ca 6) ((fo (mc_lbf (m_ext m_pop tg.1 tg.2.2.2.2.2.1 (fo (mc_wef tg.2.2.2.1) tg.1 sb.2.2.2.1) (fo (mc_sef tg.2.2.2.2.2.1 tg.1) 32 sb.2.2.2.2.1) 32 tg.2.2.2.2.2.2.1 (zo tg.1 - 1) 0 0 (1000000, 0)).2 tg.2.2.2.1) tg.1 (sb.1, 0, 0)).1)), (ad 7, eI 81 (ca 7) (fo (mc_wef tg.2.2.2.1) tg.1 sb.2.2.2.1)), (ad 8, eL 32 (ca 8) (fo (mc_sef tg.2.2.2.2.2.1 tg.1) 32 sb.2.2.2.2.1)), (ad 11, eI 81 (ca 11) tg.2.2.2.1), (ad 13, eL 81 (ca 13) tg.2.2.2.2.2.1)] := hD
    refine lv_aload_n hx hb d_H_solve_18 rfl (lv_at hl 0 rfl) ?_
    refine lv_iconst (v := 1) hx hb d_H_solve_19 (by decide) ?_
    refine va_put (D := (dC, dI)) (ci := 3) (v := .int 1) (ty := .boolean) (C := R_H) (T := F_H) (N := 8) hx hb hts (hin_of in_H) ft_H tk_H nm_H hown hK hP hD hS 0 rfl rfl 7 (by decide) (hw_of hts mw_186) (fun _ h9 => h9) rfl (by decide +kernel) rfl rfl (Nat.le_of_ble_eq_true rfl) d_H_solve_20 (fun H locs hP hD hS => ?_)
    have hP : va_P (dC, dI) vC [(ad 0, eH ad (nI nn) (nI mo) (gs ga) 1), (ad 3, eP ad), (ad 4, eI 2 (ca 4) one), (ad 5, eI 2 (ca 5) zer), (ad 9, eI 81 (ca 9) tg.2.1), (ad 10, eI 81 (ca 10) tg.2.2.1), (ad 12, eI 81 (ca 12) tg.2.2.2.2.1), (ad 14, eI 81 (ca 14) tg.2.2.2.2.2.2.2.2), (ad 15, eI 81 (ca 15) pin), (ad 16, eI 81 (ca 16) psz), (ad 1, eS ad (nI ((fo (mc_lbf (m_ext m_pop tg.1 tg.2.2.2.2.2.1 (fo (mc_wef tg.2.2.2.1) tg.1 sb.2.2.2.1) (fo (mc_sef tg.2.2.2.2.2.1 tg.1) 32 sb.2.2.2.2.1) 32 tg.2.2.2.2.2.2.1 (zo tg.1 - 1) 0 0 (1000000, 0)).2 tg.2.2.2.1) tg.1 (sb.1, 0, 0)).2.1)) ((fo (mc_lbf (m_ext m_pop tg.1 tg.2.2.2.2.2.1 (fo (mc_wef tg.2.2.2.1) tg.1 sb.2.2.2.1) (fo (mc_sef tg.2.2.2.2.2.1 tg.1) 32 sb.2.2.2.2.1) 32 tg.2.2.2.2.2.2.1 (zo tg.1 - 1) 0 0 (1000000, 0)).2 tg.2.2.2.1) tg.1 (sb.1, 0, 0)).2.2) ((m_ext m_pop tg.1 tg.2.2.2.2.2.1 (fo (mc_wef tg.2.2.2.1) tg.1 sb.2.2.2.1) (fo (mc_sef tg.2.2.2.2.2.1 tg.1) 32 sb.2.2.2.2.1) 32 tg.2.2.2.2.2.2.1 (zo tg.1 - 1) 0 0 (1000000, 0)).1) ((m_ext m_pop tg.1 tg.2.2.2.2.2.1 (fo (mc_wef tg.2.2.2.1) tg.1 sb.2.2.2.1) (fo (mc_sef tg.2.2.2.2.2.1 tg.1) 32 sb.2.2.2.2.1) 32 tg.2.2.2.2.2.2.1 (zo tg.1 - 1) 0 0 (1000000, 0)).2)), (ad 2, eT ad (nI tg.1) tg.2.2.2.2.2.2.1 tg.2.2.2.2.2.2.2.1), (ad 6, eI 81 (ca 6) ((fo (mc_lbf (m_ext m_pop tg.1 tg.2.2.2.2.2.1 (fo (mc_wef tg.2.2.2.1) tg.1 sb.2.2.2.1) (fo (mc_sef tg.2.2.2.2.2.1 tg.1) 32 sb.2.2.2.2.1) 32 tg.2.2.2.2.2.2.1 (zo tg.1 - 1) 0 0 (1000000, 0)).2 tg.2.2.2.1) tg.1 (sb.1, 0, 0)).1)), (ad 7, eI 81 (ca 7) (fo (mc_wef tg.2.2.2.1) tg.1 sb.2.2.2.1)), (ad 8, eL 32 (ca 8) (fo (mc_sef tg.2.2.2.2.2.1 tg.1) 32 sb.2.2.2.2.1)), (ad 11, eI 81 (ca 11) tg.2.2.2.1), (ad 13, eL 81 (ca 13) tg.2.2.2.2.2.1)] H := hP
    have hD : va_D A [(ad 0, eH ad (nI nn) (nI mo) (gs ga) 1), (ad 3, eP ad), (ad 4, eI 2 (ca 4) one), (ad 5, eI 2 (ca 5) zer), (ad 9, eI 81 (ca 9) tg.2.1), (ad 10, eI 81 (ca 10) tg.2.2.1), (ad 12, eI 81 (ca 12) tg.2.2.2.2.1), (ad 14, eI 81 (ca 14) tg.2.2.2.2.2.2.2.2), (ad 15, eI 81 (ca 15) pin), (ad 16, eI 81 (ca 16) psz), (ad 1, eS ad (nI ((fo (mc_lbf (m_ext m_pop tg.1 tg.2.2.2.2.2.1 (fo (mc_wef tg.2.2.2.1) tg.1 sb.2.2.2.1) (fo (mc_sef tg.2.2.2.2.2.1 tg.1) 32 sb.2.2.2.2.1) 32 tg.2.2.2.2.2.2.1 (zo tg.1 - 1) 0 0 (1000000, 0)).2 tg.2.2.2.1) tg.1 (sb.1, 0, 0)).2.1)) ((fo (mc_lbf (m_ext m_pop tg.1 tg.2.2.2.2.2.1 (fo (mc_wef tg.2.2.2.1) tg.1 sb.2.2.2.1) (fo (mc_sef tg.2.2.2.2.2.1 tg.1) 32 sb.2.2.2.2.1) 32 tg.2.2.2.2.2.2.1 (zo tg.1 - 1) 0 0 (1000000, 0)).2 tg.2.2.2.1) tg.1 (sb.1, 0, 0)).2.2) ((m_ext m_pop tg.1 tg.2.2.2.2.2.1 (fo (mc_wef tg.2.2.2.1) tg.1 sb.2.2.2.1) (fo (mc_sef tg.2.2.2.2.2.1 tg.1) 32 sb.2.2.2.2.1) 32 tg.2.2.2.2.2.2.1 (zo tg.1 - 1) 0 0 (1000000, 0)).1) ((m_ext m_pop tg.1 tg.2.2.2.2.2.1 (fo (mc_wef tg.2.2.2.1) tg.1 sb.2.2.2.1) (fo (mc_sef tg.2.2.2.2.2.1 tg.1) 32 sb.2.2.2.2.1) 32 tg.2.2.2.2.2.2.1 (zo tg.1 - 1) 0 0 (1000000, 0)).2)), (ad 2, eT ad (nI tg.1) tg.2.2.2.2.2.2.1 tg.2.2.2.2.2.2.2.1), (ad 6, eI 81 (ca 6) ((fo (mc_lbf (m_ext m_pop tg.1 tg.2.2.2.2.2.1 (fo (mc_wef tg.2.2.2.1) tg.1 sb.2.2.2.1) (fo (mc_sef tg.2.2.2.2.2.1 tg.1) 32 sb.2.2.2.2.1) 32 tg.2.2.2.2.2.2.1 (zo tg.1 - 1) 0 0 (1000000, 0)).2 tg.2.2.2.1) tg.1 (sb.1, 0, 0)).1)), (ad 7, eI 81 (ca 7) (fo (mc_wef tg.2.2.2.1) tg.1 sb.2.2.2.1)), (ad 8, eL 32 (ca 8) (fo (mc_sef tg.2.2.2.2.2.1 tg.1) 32 sb.2.2.2.2.1)), (ad 11, eI 81 (ca 11) tg.2.2.2.1), (ad 13, eL 81 (ca 13) tg.2.2.2.2.2.1)] := hD
    have e_9 : gs se = 1 := by first | exact if_pos c_8 | exact if_neg c_8 | (rw [hsg, m_solv, if_neg c_8]; done) | (rw [hsg, m_solv, if_pos c_8]; rfl)
    have e_10 : nI sg.2.1 = nI ((fo (mc_lbf (m_ext m_pop tg.1 tg.2.2.2.2.2.1 (fo (mc_wef tg.2.2.2.1) tg.1 sb.2.2.2.1) (fo (mc_sef tg.2.2.2.2.2.1 tg.1) 32 sb.2.2.2.2.1) 32 tg.2.2.2.2.2.2.1 (zo tg.1 - 1) 0 0 (1000000, 0)).2 tg.2.2.2.1) tg.1 (sb.1, 0, 0)).2.1) := by first | exact if_pos c_8 | exact if_neg c_8 | (rw [hsg, m_solv, if_neg c_8]; done) | (rw [hsg, m_solv, if_pos c_8]; rfl)
    have e_11 : sg.2.2.1 = (fo (mc_lbf (m_ext m_pop tg.1 tg.2.2.2.2.2.1 (fo (mc_wef tg.2.2.2.1) tg.1 sb.2.2.2.1) (fo (mc_sef tg.2.2.2.2.2.1 tg.1) 32 sb.2.2.2.2.1) 32 tg.2.2.2.2.2.2.1 (zo tg.1 - 1) 0 0 (1000000, 0)).2 tg.2.2.2.1) tg.1 (sb.1, 0, 0)).2.2 := by first | exact if_pos c_8 | exact if_neg c_8 | (rw [hsg, m_solv, if_neg c_8]; done) | (rw [hsg, m_solv, if_pos c_8]; rfl)
    have e_12 : sg.2.2.2.2.2.1 = (m_ext m_pop tg.1 tg.2.2.2.2.2.1 (fo (mc_wef tg.2.2.2.1) tg.1 sb.2.2.2.1) (fo (mc_sef tg.2.2.2.2.2.1 tg.1) 32 sb.2.2.2.2.1) 32 tg.2.2.2.2.2.2.1 (zo tg.1 - 1) 0 0 (1000000, 0)).1 := by first | exact if_pos c_8 | exact if_neg c_8 | (rw [hsg, m_solv, if_neg c_8]; done) | (rw [hsg, m_solv, if_pos c_8]; rfl)
    have e_13 : sg.2.2.2.2.2.2 = (m_ext m_pop tg.1 tg.2.2.2.2.2.1 (fo (mc_wef tg.2.2.2.1) tg.1 sb.2.2.2.1) (fo (mc_sef tg.2.2.2.2.2.1 tg.1) 32 sb.2.2.2.2.1) 32 tg.2.2.2.2.2.2.1 (zo tg.1 - 1) 0 0 (1000000, 0)).2 := by first | exact if_pos c_8 | exact if_neg c_8 | (rw [hsg, m_solv, if_neg c_8]; done) | (rw [hsg, m_solv, if_pos c_8]; rfl)
    have e_14 : sg.1 = (fo (mc_lbf (m_ext m_pop tg.1 tg.2.2.2.2.2.1 (fo (mc_wef tg.2.2.2.1) tg.1 sb.2.2.2.1) (fo (mc_sef tg.2.2.2.2.2.1 tg.1) 32 sb.2.2.2.2.1) 32 tg.2.2.2.2.2.2.1 (zo tg.1 - 1) 0 0 (1000000, 0)).2 tg.2.2.2.1) tg.1 (sb.1, 0, 0)).1 := by first | exact if_pos c_8 | exact if_neg c_8 | (rw [hsg, m_solv, if_neg c_8]; done) | (rw [hsg, m_solv, if_pos c_8]; rfl)
    have e_15 : sg.2.2.2.1 = (fo (mc_wef tg.2.2.2.1) tg.1 sb.2.2.2.1) := by first | exact if_pos c_8 | exact if_neg c_8 | (rw [hsg, m_solv, if_neg c_8]; done) | (rw [hsg, m_solv, if_pos c_8]; rfl)
    have e_16 : sg.2.2.2.2.1 = (fo (mc_sef tg.2.2.2.2.2.1 tg.1) 32 sb.2.2.2.2.1) := by first | exact if_pos c_8 | exact if_neg c_8 | (rw [hsg, m_solv, if_neg c_8]; done) | (rw [hsg, m_solv, if_pos c_8]; rfl)
    exact W.vret hx hb hr (fun t ht hW => by (try rw [e_9]); (try rw [e_10]); (try rw [e_11]); (try rw [e_12]); (try rw [e_13]); (try rw [e_14]); (try rw [e_15]); (try rw [e_16]); exact kw_endv hP hD hK hS [0, 11, 1, 2, 3, 4, 5, 15, 6, 16, 7, 8, 9, 10, 12, 13, 14] rfl (by decide) rfl ht hW.alike) hS.2.2 d_H_solve_23
end
section
set_option maxHeartbeats 4000000 in
set_option maxRecDepth 100000 in
theorem c_candidates (l : Launch) (dC : Nat → ClassId) (dI : Nat → Nat → Nat) (ad : Nat → Nat) (ca : Nat → ClassId) (tP tI : Nat) (nn : Nat) (mo : Nat) (hnn : nn ≤ 4) (hmo : mo ≤ 2) (ga : Int32) (se : Int32) (one : Nat → Int32) (zer : Nat → Int32) (pin : Nat → Int32) (psz : Nat → Int32) (tb : TB) (tg : TB) (htg : tg = m_gath ga nn mo one zer pin psz tb) (sz : Nat) : Met l y_H_candidates w_H_candidates ({ frames := 4, cells := 0, slots := 0, locals := 130 }) (kw_PX tP tI [.ref (ad 0)] sz (dC, dI) vC [(ad 0, eH ad (nI nn) (nI mo) ga se), (ad 2, eT ad (nI tb.1) tb.2.2.2.2.2.2.1 tb.2.2.2.2.2.2.2.1), (ad 3, eP ad), (ad 4, eI 2 (ca 4) one), (ad 5, eI 2 (ca 5) zer), (ad 9, eI 81 (ca 9) tb.2.1), (ad 10, eI 81 (ca 10) tb.2.2.1), (ad 11, eI 81 (ca 11) tb.2.2.2.1), (ad 12, eI 81 (ca 12) tb.2.2.2.2.1), (ad 13, eL 81 (ca 13) tb.2.2.2.2.2.1), (ad 14, eI 81 (ca 14) tb.2.2.2.2.2.2.2.2), (ad 15, eI 81 (ca 15) pin), (ad 16, eI 81 (ca 16) psz)] [(ca 4, .int), (ca 5, .int), (ca 9, .int), (ca 10, .int), (ca 11, .int), (ca 12, .int), (ca 13, .long), (ca 14, .int), (ca 15, .int), (ca 16, .int)]) (kw_Qi (dC, dI) vC [(ca 4, .int), (ca 5, .int), (ca 9, .int), (ca 10, .int), (ca 11, .int), (ca 12, .int), (ca 13, .long), (ca 14, .int), (ca 15, .int), (ca 16, .int)] (va_A [(ad 0, eH ad (nI nn) (nI mo) ga se), (ad 2, eT ad (nI tb.1) tb.2.2.2.2.2.2.1 tb.2.2.2.2.2.2.2.1), (ad 3, eP ad), (ad 4, eI 2 (ca 4) one), (ad 5, eI 2 (ca 5) zer), (ad 9, eI 81 (ca 9) tb.2.1), (ad 10, eI 81 (ca 10) tb.2.2.1), (ad 11, eI 81 (ca 11) tb.2.2.2.1), (ad 12, eI 81 (ca 12) tb.2.2.2.2.1), (ad 13, eL 81 (ca 13) tb.2.2.2.2.2.1), (ad 14, eI 81 (ca 14) tb.2.2.2.2.2.2.2.2), (ad 15, eI 81 (ca 15) pin), (ad 16, eI 81 (ca 16) psz)] sz) [(ad 0, eH ad (nI nn) (nI mo) (gs ga) se), (ad 2, eT ad (nI tg.1) tg.2.2.2.2.2.2.1 tg.2.2.2.2.2.2.2.1), (ad 3, eP ad), (ad 4, eI 2 (ca 4) one), (ad 5, eI 2 (ca 5) zer), (ad 9, eI 81 (ca 9) tg.2.1), (ad 10, eI 81 (ca 10) tg.2.2.1), (ad 11, eI 81 (ca 11) tg.2.2.2.1), (ad 12, eI 81 (ca 12) tg.2.2.2.2.1), (ad 13, eL 81 (ca 13) tg.2.2.2.2.2.1), (ad 14, eI 81 (ca 14) tg.2.2.2.2.2.2.2.2), (ad 15, eI 81 (ca 15) pin), (ad 16, eI 81 (ca 16) psz)] (nI tg.1)) 0 0 (va_A [(ad 0, eH ad (nI nn) (nI mo) ga se), (ad 2, eT ad (nI tb.1) tb.2.2.2.2.2.2.1 tb.2.2.2.2.2.2.2.1), (ad 3, eP ad), (ad 4, eI 2 (ca 4) one), (ad 5, eI 2 (ca 5) zer), (ad 9, eI 81 (ca 9) tb.2.1), (ad 10, eI 81 (ca 10) tb.2.2.1), (ad 11, eI 81 (ca 11) tb.2.2.2.1), (ad 12, eI 81 (ca 12) tb.2.2.2.2.1), (ad 13, eL 81 (ca 13) tb.2.2.2.2.2.1), (ad 14, eI 81 (ca 14) tb.2.2.2.2.2.2.2.2), (ad 15, eI 81 (ca 15) pin), (ad 16, eI 81 (ca 16) psz)] sz) := by
  refine Met.ofW (cc := b_H_candidates) (maxL := 1) (ret := (some .int)) (by decide) rfl ?_
  intro p e s m args below meth c s₁ B hml hv
  obtain ⟨⟨rfl, hsz, hP, hK, hD0⟩, hX⟩ := hv
  have hx := B.exec
  have hb := B.bytes
  have hr := B.returns
  have hts := atoms_spec (ws := w_H_candidates) B.pre
  have hlocks := B.notSynchronized
  have hown : s.vm.findClass R_H = some m.cls := findClass_of_methodNamed B.named
  subst hsz
  have hD := hD0.self (sz := s.heap.size)
  generalize hAe : va_A [(ad 0, eH ad (nI nn) (nI mo) ga se), (ad 2, eT ad (nI tb.1) tb.2.2.2.2.2.2.1 tb.2.2.2.2.2.2.2.1), (ad 3, eP ad), (ad 4, eI 2 (ca 4) one), (ad 5, eI 2 (ca 5) zer), (ad 9, eI 81 (ca 9) tb.2.1), (ad 10, eI 81 (ca 10) tb.2.2.1), (ad 11, eI 81 (ca 11) tb.2.2.2.1), (ad 12, eI 81 (ca 12) tb.2.2.2.2.1), (ad 13, eL 81 (ca 13) tb.2.2.2.2.2.1), (ad 14, eI 81 (ca 14) tb.2.2.2.2.2.2.2.2), (ad 15, eI 81 (ca 15) pin), (ad 16, eI 81 (ca 16) psz)] s.heap.size = A at hD hX ⊢
  have hA : ∀ q : Nat, s.heap.size ≤ q → A q := fun q h => by rw [← hAe]; exact Or.inr h
  have hS : va_S A s.heap s.heap [] := va_S.rf
  have hP : va_P (dC, dI) vC [(ad 0, eH ad (nI nn) (nI mo) ga se), (ad 2, eT ad (nI tb.1) tb.2.2.2.2.2.2.1 tb.2.2.2.2.2.2.2.1), (ad 3, eP ad), (ad 4, eI 2 (ca 4) one), (ad 5, eI 2 (ca 5) zer), (ad 9, eI 81 (ca 9) tb.2.1), (ad 10, eI 81 (ca 10) tb.2.2.1), (ad 11, eI 81 (ca 11) tb.2.2.2.1), (ad 12, eI 81 (ca 12) tb.2.2.2.2.1), (ad 13, eL 81 (ca 13) tb.2.2.2.2.2.1), (ad 14, eI 81 (ca 14) tb.2.2.2.2.2.2.2.2), (ad 15, eI 81 (ca 15) pin), (ad 16, eI 81 (ca 16) psz)] s.heap := hP
  have hl := lv_entry ([.ref (ad 0)]) (n := 1) (Nat.le_of_ble_eq_true rfl)
  rw [lg_entry_eq]
  generalize (lg_sl ([.ref (ad 0)]) ++ List.replicate (1 - (lg_sl ([.ref (ad 0)])).length) Slot.unset).toArray = ls at hl ⊢
  have hl : lv_has ls 1 [(0, .ref (ad 0))] := hl
  refine lv_aload_n hx hb d_H_candidates_0 rfl (lv_at hl 0 rfl) ?_
  have hPc := hP.sub (ws' := [(ad 0, eH ad (nI nn) (nI mo) ga se), (ad 2, eT ad (nI tb.1) tb.2.2.2.2.2.2.1 tb.2.2.2.2.2.2.2.1), (ad 3, eP ad), (ad 4, eI 2 (ca 4) one), (ad 5, eI 2 (ca 5) zer), (ad 9, eI 81 (ca 9) tb.2.1), (ad 10, eI 81 (ca 10) tb.2.2.1), (ad 11, eI 81 (ca 11) tb.2.2.2.1), (ad 12, eI 81 (ca 12) tb.2.2.2.2.1), (ad 13, eL 81 (ca 13) tb.2.2.2.2.2.1), (ad 14, eI 81 (ca 14) tb.2.2.2.2.2.2.2.2), (ad 15, eI 81 (ca 15) pin), (ad 16, eI 81 (ca 16) psz)]) [0, 1, 2, 3, 4, 5, 6, 7, 8, 9, 10, 11, 12] rfl
  have hDc := hD.sub (ws' := [(ad 0, eH ad (nI nn) (nI mo) ga se), (ad 2, eT ad (nI tb.1) tb.2.2.2.2.2.2.1 tb.2.2.2.2.2.2.2.1), (ad 3, eP ad), (ad 4, eI 2 (ca 4) one), (ad 5, eI 2 (ca 5) zer), (ad 9, eI 81 (ca 9) tb.2.1), (ad 10, eI 81 (ca 10) tb.2.2.1), (ad 11, eI 81 (ca 11) tb.2.2.2.1), (ad 12, eI 81 (ca 12) tb.2.2.2.2.1), (ad 13, eL 81 (ca 13) tb.2.2.2.2.2.1), (ad 14, eI 81 (ca 14) tb.2.2.2.2.2.2.2.2), (ad 15, eI 81 (ca 15) pin), (ad 16, eI 81 (ca 16) psz)]) [0, 1, 2, 3, 4, 5, 6, 7, 8, 9, 10, 11, 12] (by decide) rfl
  have hKc := hK.sub (tys' := [(ca 4, .int), (ca 5, .int), (ca 9, .int), (ca 10, .int), (ca 11, .int), (ca 12, .int), (ca 13, .long), (ca 14, .int), (ca 15, .int), (ca 16, .int)]) [0, 1, 2, 3, 4, 5, 6, 7, 8, 9] rfl
  refine kw_callv (wr := []) (wf := [(ad 0, eH ad (nI nn) (nI mo) (gs ga) se), (ad 2, eT ad (nI tg.1) tg.2.2.2.2.2.2.1 tg.2.2.2.2.2.2.2.1), (ad 3, eP ad), (ad 4, eI 2 (ca 4) one), (ad 5, eI 2 (ca 5) zer), (ad 9, eI 81 (ca 9) tg.2.1), (ad 10, eI 81 (ca 10) tg.2.2.1), (ad 11, eI 81 (ca 11) tg.2.2.2.1), (ad 12, eI 81 (ca 12) tg.2.2.2.2.1), (ad 13, eL 81 (ca 13) tg.2.2.2.2.2.1), (ad 14, eI 81 (ca 14) tg.2.2.2.2.2.2.2.2), (ad 15, eI 81 (ca 15) pin), (ad 16, eI 81 (ca 16) psz)]) (va_runV (As := []) (rest := []) ⟨hx, hb, hml, hown, hts⟩ (c_gather l dC dI ad ca tP tI nn mo hnn hmo ga se one zer pin psz tb tg htg _) (cwV 0 hts (gd_V mw_208 mw_210 mw_4 mw_40 mw_211) rfl rfl rfl (by decide +kernel) ⟨Nat.le_of_ble_eq_true rfl, Nat.le_of_ble_eq_true rfl⟩) (kw_VX (q0 := 0) (ci := 3) hKc hPc hDc rfl rfl hX hS (va_free hD hS hA [0, 1, 2, 3, 4, 5, 6, 7, 8, 9, 10, 11, 12] rfl)) rfl rfl hl.1 rfl (lv_room (Nat.le_of_ble_eq_true rfl)) d_H_candidates_1 ⟨Nat.zero_le _, Nat.zero_le _⟩) hP hD hS hA [0, 1, 2, 3, 4, 5, 6, 7, 8, 9, 10, 11, 12] [] rfl rfl (by decide) (by decide) (fun H locs hP hD hS => ?_)
  have hP : va_P (dC, dI) vC [(ad 0, eH ad (nI nn) (nI mo) (gs ga) se), (ad 2, eT ad (nI tg.1) tg.2.2.2.2.2.2.1 tg.2.2.2.2.2.2.2.1), (ad 3, eP ad), (ad 4, eI 2 (ca 4) one), (ad 5, eI 2 (ca 5) zer), (ad 9, eI 81 (ca 9) tg.2.1), (ad 10, eI 81 (ca 10) tg.2.2.1), (ad 11, eI 81 (ca 11) tg.2.2.2.1), (ad 12, eI 81 (ca 12) tg.2.2.2.2.1), (ad 13, eL 81 (ca 13) tg.2.2.2.2.2.1), (ad 14, eI 81 (ca 14) tg.2.2.2.2.2.2.2.2), (ad 15, eI 81 (ca 15) pin), (ad 16, eI 81 (ca 16) psz)] H := hP
  have hD : va_D A [(ad 0, eH ad (nI nn) (nI mo) (gs ga) se), (ad 2, eT ad (nI tg.1) tg.2.2.2.2.2.2.1 tg.2.2.2.2.2.2.2.1), (ad 3, eP ad), (ad 4, eI 2 (ca 4) one), (ad 5, eI 2 (ca 5) zer), (ad 9, eI 81 (ca 9) tg.2.1), (ad 10, eI 81 (ca 10) tg.2.2.1), (ad 11, eI 81 (ca 11) tg.2.2.2.1), (ad 12, eI 81 (ca 12) tg.2.2.2.2.1), (ad 13, eL 81 (ca 13) tg.2.2.2.2.2.1), (ad 14, eI 81 (ca 14) tg.2.2.2.2.2.2.2.2), (ad 15, eI 81 (ca 15) pin), (ad 16, eI 81 (ca 16) psz)] := hD
  refine lv_aload_n hx hb d_H_candidates_4 rfl (lv_at hl 0 rfl) ?_
  refine va_get (D := (dC, dI)) (ci := 3) (v := .ref (ad 2)) (C := R_H) (T := F_H) (N := 8) hx hb hts (hin_of in_H) hown hK hP 0 rfl rfl 3 (by decide) (hw_of hts mw_182) (fun _ h9 => h9) rfl d_H_candidates_5 ?_
  refine va_get (D := (dC, dI)) (ci := 0) (v := .int (nI tg.1)) (C := R_T) (T := F_T) (N := 10) hx hb hts (hin_of in_T) hown hK hP 1 rfl rfl 5 (by decide) (hw_of hts mw_111) (fun _ h9 => h9) rfl d_H_candidates_8 ?_
  exact W.iret (v := nI tg.1) hx hb hr (fun t ht hW => by exact kw_endi hP hD hK hS [0, 1, 2, 3, 4, 5, 6, 7, 8, 9, 10, 11, 12] rfl (by decide) rfl ht hW.alike) hS.2.2 d_H_candidates_11
set_option maxHeartbeats 4000000 in
set_option maxRecDepth 100000 in
theorem c_thinned (l : Launch) (dC : Nat → ClassId) (dI : Nat → Nat → Nat) (ad : Nat → Nat) (ca : Nat → ClassId) (tP tI : Nat) (nn : Nat) (mo : Nat) (hnn : nn ≤ 4) (hmo : mo ≤ 2) (ga : Int32) (se : Int32) (one : Nat → Int32) (zer : Nat → Int32) (pin : Nat → Int32) (psz : Nat → Int32) (tb : TB) (tg : TB) (htg : tg = m_gath ga nn mo one zer pin psz tb) (h63 : tg.1 ≤ 63) (fm : Int32) (sz : Nat) : Met l y_H_thinned w_H_thinned ({ frames := 4, cells := 0, slots := 0, locals := 130 }) (kw_PX tP tI [.ref (ad 0), .int fm] sz (dC, dI) vC [(ad 0, eH ad (nI nn) (nI mo) ga se), (ad 2, eT ad (nI tb.1) tb.2.2.2.2.2.2.1 tb.2.2.2.2.2.2.2.1), (ad 3, eP ad), (ad 4, eI 2 (ca 4) one), (ad 5, eI 2 (ca 5) zer), (ad 9, eI 81 (ca 9) tb.2.1), (ad 10, eI 81 (ca 10) tb.2.2.1), (ad 11, eI 81 (ca 11) tb.2.2.2.1), (ad 12, eI 81 (ca 12) tb.2.2.2.2.1), (ad 13, eL 81 (ca 13) tb.2.2.2.2.2.1), (ad 14, eI 81 (ca 14) tb.2.2.2.2.2.2.2.2), (ad 15, eI 81 (ca 15) pin), (ad 16, eI 81 (ca 16) psz)] [(ca 4, .int), (ca 5, .int), (ca 9, .int), (ca 10, .int), (ca 11, .int), (ca 12, .int), (ca 13, .long), (ca 14, .int), (ca 15, .int), (ca 16, .int)]) (kw_Qi (dC, dI) vC [(ca 4, .int), (ca 5, .int), (ca 9, .int), (ca 10, .int), (ca 11, .int), (ca 12, .int), (ca 13, .long), (ca 14, .int), (ca 15, .int), (ca 16, .int)] (va_A [(ad 0, eH ad (nI nn) (nI mo) ga se), (ad 2, eT ad (nI tb.1) tb.2.2.2.2.2.2.1 tb.2.2.2.2.2.2.2.1), (ad 3, eP ad), (ad 4, eI 2 (ca 4) one), (ad 5, eI 2 (ca 5) zer), (ad 9, eI 81 (ca 9) tb.2.1), (ad 10, eI 81 (ca 10) tb.2.2.1), (ad 11, eI 81 (ca 11) tb.2.2.2.1), (ad 12, eI 81 (ca 12) tb.2.2.2.2.1), (ad 13, eL 81 (ca 13) tb.2.2.2.2.2.1), (ad 14, eI 81 (ca 14) tb.2.2.2.2.2.2.2.2), (ad 15, eI 81 (ca 15) pin), (ad 16, eI 81 (ca 16) psz)] sz) [(ad 0, eH ad (nI nn) (nI mo) (gs ga) se), (ad 2, eT ad (nI tg.1) tg.2.2.2.2.2.2.1 tg.2.2.2.2.2.2.2.1), (ad 3, eP ad), (ad 4, eI 2 (ca 4) one), (ad 5, eI 2 (ca 5) zer), (ad 9, eI 81 (ca 9) tg.2.1), (ad 10, eI 81 (ca 10) tg.2.2.1), (ad 11, eI 81 (ca 11) tg.2.2.2.1), (ad 12, eI 81 (ca 12) tg.2.2.2.2.1), (ad 13, eL 81 (ca 13) tg.2.2.2.2.2.1), (ad 14, eI 81 (ca 14) tg.2.2.2.2.2.2.2.2), (ad 15, eI 81 (ca 15) pin), (ad 16, eI 81 (ca 16) psz)] (mc_thin tg.2.1 tg.2.2.2.2.2.1 tg.2.2.2.2.2.2.1 tg.1 fm)) 0 0 (va_A [(ad 0, eH ad (nI nn) (nI mo) ga se), (ad 2, eT ad (nI tb.1) tb.2.2.2.2.2.2.1 tb.2.2.2.2.2.2.2.1), (ad 3, eP ad), (ad 4, eI 2 (ca 4) one), (ad 5, eI 2 (ca 5) zer), (ad 9, eI 81 (ca 9) tb.2.1), (ad 10, eI 81 (ca 10) tb.2.2.1), (ad 11, eI 81 (ca 11) tb.2.2.2.1), (ad 12, eI 81 (ca 12) tb.2.2.2.2.1), (ad 13, eL 81 (ca 13) tb.2.2.2.2.2.1), (ad 14, eI 81 (ca 14) tb.2.2.2.2.2.2.2.2), (ad 15, eI 81 (ca 15) pin), (ad 16, eI 81 (ca 16) psz)] sz) := by
  refine Met.ofW (cc := b_H_thinned) (maxL := 2) (ret := (some .int)) (by decide) rfl ?_
  intro p e s m args below meth c s₁ B hml hv
  obtain ⟨⟨rfl, hsz, hP, hK, hD0⟩, hX⟩ := hv
  have hx := B.exec
  have hb := B.bytes
  have hr := B.returns
  have hts := atoms_spec (ws := w_H_thinned) B.pre
  have hlocks := B.notSynchronized
  have hown : s.vm.findClass R_H = some m.cls := findClass_of_methodNamed B.named
  subst hsz
  have hD := hD0.self (sz := s.heap.size)
  generalize hAe : va_A [(ad 0, eH ad (nI nn) (nI mo) ga se), (ad 2, eT ad (nI tb.1) tb.2.2.2.2.2.2.1 tb.2.2.2.2.2.2.2.1), (ad 3, eP ad), (ad 4, eI 2 (ca 4) one), (ad 5, eI 2 (ca 5) zer), (ad 9, eI 81 (ca 9) tb.2.1), (ad 10, eI 81 (ca 10) tb.2.2.1), (ad 11, eI 81 (ca 11) tb.2.2.2.1), (ad 12, eI 81 (ca 12) tb.2.2.2.2.1), (ad 13, eL 81 (ca 13) tb.2.2.2.2.2.1), (ad 14, eI 81 (ca 14) tb.2.2.2.2.2.2.2.2), (ad 15, eI 81 (ca 15) pin), (ad 16, eI 81 (ca 16) psz)] s.heap.size = A at hD hX ⊢
  have hA : ∀ q : Nat, s.heap.size ≤ q → A q := fun q h => by rw [← hAe]; exact Or.inr h
  have hS : va_S A s.heap s.heap [] := va_S.rf
  have hP : va_P (dC, dI) vC [(ad 0, eH ad (nI nn) (nI mo) ga se), (ad 2, eT ad (nI tb.1) tb.2.2.2.2.2.2.1 tb.2.2.2.2.2.2.2.1), (ad 3, eP ad), (ad 4, eI 2 (ca 4) one), (ad 5, eI 2 (ca 5) zer), (ad 9, eI 81 (ca 9) tb.2.1), (ad 10, eI 81 (ca 10) tb.2.2.1), (ad 11, eI 81 (ca 11) tb.2.2.2.1), (ad 12, eI 81 (ca 12) tb.2.2.2.2.1), (ad 13, eL 81 (ca 13) tb.2.2.2.2.2.1), (ad 14, eI 81 (ca 14) tb.2.2.2.2.2.2.2.2), (ad 15, eI 81 (ca 15) pin), (ad 16, eI 81 (ca 16) psz)] s.heap := hP
  have hl := lv_entry ([.ref (ad 0), .int fm]) (n := 2) (Nat.le_of_ble_eq_true rfl)
  rw [lg_entry_eq]
  generalize (lg_sl ([.ref (ad 0), .int fm]) ++ List.replicate (2 - (lg_sl ([.ref (ad 0), .int fm])).length) Slot.unset).toArray = ls at hl ⊢
  have hl : lv_has ls 2 [(0, .ref (ad 0)), (1, .int fm)] := hl
  refine lv_aload_n hx hb d_H_thinned_0 rfl (lv_at hl 0 rfl) ?_
  have hPc := hP.sub (ws' := [(ad 0, eH ad (nI nn) (nI mo) ga se), (ad 2, eT ad (nI tb.1) tb.2.2.2.2.2.2.1 tb.2.2.2.2.2.2.2.1), (ad 3, eP ad), (ad 4, eI 2 (ca 4) one), (ad 5, eI 2 (ca 5) zer), (ad 9, eI 81 (ca 9) tb.2.1), (ad 10, eI 81 (ca 10) tb.2.2.1), (ad 11, eI 81 (ca 11) tb.2.2.2.1), (ad 12, eI 81 (ca 12) tb.2.2.2.2.1), (ad 13, eL 81 (ca 13) tb.2.2.2.2.2.1), (ad 14, eI 81 (ca 14) tb.2.2.2.2.2.2.2.2), (ad 15, eI 81 (ca 15) pin), (ad 16, eI 81 (ca 16) psz)]) [0, 1, 2, 3, 4, 5, 6, 7, 8, 9, 10, 11, 12] rfl
  have hDc := hD.sub (ws' := [(ad 0, eH ad (nI nn) (nI mo) ga se), (ad 2, eT ad (nI tb.1) tb.2.2.2.2.2.2.1 tb.2.2.2.2.2.2.2.1), (ad 3, eP ad), (ad 4, eI 2 (ca 4) one), (ad 5, eI 2 (ca 5) zer), (ad 9, eI 81 (ca 9) tb.2.1), (ad 10, eI 81 (ca 10) tb.2.2.1), (ad 11, eI 81 (ca 11) tb.2.2.2.1), (ad 12, eI 81 (ca 12) tb.2.2.2.2.1), (ad 13, eL 81 (ca 13) tb.2.2.2.2.2.1), (ad 14, eI 81 (ca 14) tb.2.2.2.2.2.2.2.2), (ad 15, eI 81 (ca 15) pin), (ad 16, eI 81 (ca 16) psz)]) [0, 1, 2, 3, 4, 5, 6, 7, 8, 9, 10, 11, 12] (by decide) rfl
  have hKc := hK.sub (tys' := [(ca 4, .int), (ca 5, .int), (ca 9, .int), (ca 10, .int), (ca 11, .int), (ca 12, .int), (ca 13, .long), (ca 14, .int), (ca 15, .int), (ca 16, .int)]) [0, 1, 2, 3, 4, 5, 6, 7, 8, 9] rfl
  refine kw_callv (wr := []) (wf := [(ad 0, eH ad (nI nn) (nI mo) (gs ga) se), (ad 2, eT ad (nI tg.1) tg.2.2.2.2.2.2.1 tg.2.2.2.2.2.2.2.1), (ad 3, eP ad), (ad 4, eI 2 (ca 4) one), (ad 5, eI 2 (ca 5) zer), (ad 9, eI 81 (ca 9) tg.2.1), (ad 10, eI 81 (ca 10) tg.2.2.1), (ad 11, eI 81 (ca 11) tg.2.2.2.1), (ad 12, eI 81 (ca 12) tg.2.2.2.2.1), (ad 13, eL 81 (ca 13) tg.2.2.2.2.2.1), (ad 14, eI 81 (ca 14) tg.2.2.2.2.2.2.2.2), (ad 15, eI 81 (ca 15) pin), (ad 16, eI 81 (ca 16) psz)]) (va_runV (As := []) (rest := []) ⟨hx, hb, hml, hown, hts⟩ (c_gather l dC dI ad ca tP tI nn mo hnn hmo ga se one zer pin psz tb tg htg _) (cwV 0 hts (gd_V mw_208 mw_210 mw_4 mw_40 mw_211) rfl rfl rfl (by decide +kernel) ⟨Nat.le_of_ble_eq_true rfl, Nat.le_of_ble_eq_true rfl⟩) (kw_VX (q0 := 0) (ci := 3) hKc hPc hDc rfl rfl hX hS (va_free hD hS hA [0, 1, 2, 3, 4, 5, 6, 7, 8, 9, 10, 11, 12] rfl)) rfl rfl hl.1 rfl (lv_room (Nat.le_of_ble_eq_true rfl)) d_H_thinned_1 ⟨Nat.zero_le _, Nat.zero_le _⟩) hP hD hS hA [0, 1, 2, 3, 4, 5, 6, 7, 8, 9, 10, 11, 12] [] rfl rfl (by decide) (by decide) (fun H locs hP hD hS => ?_)
  have hP : va_P (dC, dI) vC [(ad 0, eH ad (nI nn) (nI mo) (gs ga) se), (ad 2, eT ad (nI tg.1) tg.2.2.2.2.2.2.1 tg.2.2.2.2.2.2.2.1), (ad 3, eP ad), (ad 4, eI 2 (ca 4) one), (ad 5, eI 2 (ca 5) zer), (ad 9, eI 81 (ca 9) tg.2.1), (ad 10, eI 81 (ca 10) tg.2.2.1), (ad 11, eI 81 (ca 11) tg.2.2.2.1), (ad 12, eI 81 (ca 12) tg.2.2.2.2.1), (ad 13, eL 81 (ca 13) tg.2.2.2.2.2.1), (ad 14, eI 81 (ca 14) tg.2.2.2.2.2.2.2.2), (ad 15, eI 81 (ca 15) pin), (ad 16, eI 81 (ca 16) psz)] H := hP
  have hD : va_D A [(ad 0, eH ad (nI nn) (nI mo) (gs ga) se), (ad 2, eT ad (nI tg.1) tg.2.2.2.2.2.2.1 tg.2.2.2.2.2.2.2.1), (ad 3, eP ad), (ad 4, eI 2 (ca 4) one), (ad 5, eI 2 (ca 5) zer), (ad 9, eI 81 (ca 9) tg.2.1), (ad 10, eI 81 (ca 10) tg.2.2.1), (ad 11, eI 81 (ca 11) tg.2.2.2.1), (ad 12, eI 81 (ca 12) tg.2.2.2.2.1), (ad 13, eL 81 (ca 13) tg.2.2.2.2.2.1), (ad 14, eI 81 (ca 14) tg.2.2.2.2.2.2.2.2), (ad 15, eI 81 (ca 15) pin), (ad 16, eI 81 (ca 16) psz)] := hD
  refine lv_aload_n hx hb d_H_thinned_4 rfl (lv_at hl 0 rfl) ?_
  refine va_get (D := (dC, dI)) (ci := 3) (v := .ref (ad 2)) (C := R_H) (T := F_H) (N := 8) hx hb hts (hin_of in_H) hown hK hP 0 rfl rfl 3 (by decide) (hw_of hts mw_182) (fun _ h9 => h9) rfl d_H_thinned_5 ?_
  refine lv_iload_n hx hb d_H_thinned_8 rfl (lv_at hl 1 rfl) ?_
  have hPc := hP.sub (ws' := [(ad 2, eT ad (nI tg.1) tg.2.2.2.2.2.2.1 tg.2.2.2.2.2.2.2.1), (ad 9, eI 81 (ca 9) tg.2.1), (ad 13, eL 81 (ca 13) tg.2.2.2.2.2.1)]) [1, 5, 9] rfl
  have hKc := hK.sub (tys' := [(ca 9, .int), (ca 13, .long)]) [2, 6] rfl
  refine vp_callSi (W.runV (As := [.int fm]) (rest := []) ⟨hx, hb, hml, hown, hts⟩ (c_countThinned l dC dI ad ca tg.1 h63 tg.2.2.2.2.2.2.1 tg.2.2.2.2.2.2.2.1 tg.2.1 tg.2.2.2.2.2.1 fm) (cwV 1 hts (gd_V mw_314 mw_315 mw_316 mw_42 mw_317) rfl rfl rfl (by decide +kernel) ⟨Nat.le_of_ble_eq_true rfl, Nat.le_of_ble_eq_true rfl⟩) (kr_V (q0 := 0) (ci := 0) hKc hPc rfl rfl) rfl rfl hl.1 rfl (lv_room (Nat.le_of_ble_eq_true rfl)) d_H_thinned_9 ⟨Nat.zero_le _, Nat.zero_le _⟩) (fun r hq => ?_)
  subst hq
  exact W.iret (v := mc_thin tg.2.1 tg.2.2.2.2.2.1 tg.2.2.2.2.2.2.1 tg.1 fm) hx hb hr (fun t ht hW => by exact kw_endi hP hD hK hS [0, 1, 2, 3, 4, 5, 6, 7, 8, 9, 10, 11, 12] rfl (by decide) rfl ht hW.alike) hS.2.2 d_H_thinned_12
set_option maxHeartbeats 4000000 in
set_option maxRecDepth 100000 in
theorem c_least (l : Launch) (dC : Nat → ClassId) (dI : Nat → Nat → Nat) (ad : Nat → Nat) (ca : Nat → ClassId) (tP tI : Nat) (nn : Nat) (mo : Nat) (hnn : nn ≤ 4) (hmo : mo ≤ 2) (ga : Int32) (se : Int32) (one : Nat → Int32) (zer : Nat → Int32) (pin : Nat → Int32) (psz : Nat → Int32) (tb : TB) (tg : TB) (htg : tg = m_gath ga nn mo one zer pin psz tb) (sb : SB) (sg : SB) (hsg : sg = m_solv se tg sb) (h63 : tg.1 ≤ 63) (sz : Nat) : Met l y_H_least w_H_least ({ frames := 42, cells := 0, slots := 0, locals := 1500 }) (kw_PX tP tI [.ref (ad 0)] sz (dC, dI) vC [(ad 0, eH ad (nI nn) (nI mo) ga se), (ad 2, eT ad (nI tb.1) tb.2.2.2.2.2.2.1 tb.2.2.2.2.2.2.2.1), (ad 3, eP ad), (ad 4, eI 2 (ca 4) one), (ad 5, eI 2 (ca 5) zer), (ad 9, eI 81 (ca 9) tb.2.1), (ad 10, eI 81 (ca 10) tb.2.2.1), (ad 11, eI 81 (ca 11) tb.2.2.2.1), (ad 12, eI 81 (ca 12) tb.2.2.2.2.1), (ad 13, eL 81 (ca 13) tb.2.2.2.2.2.1), (ad 14, eI 81 (ca 14) tb.2.2.2.2.2.2.2.2), (ad 15, eI 81 (ca 15) pin), (ad 16, eI 81 (ca 16) psz), (ad 1, eS ad (nI sb.2.1) sb.2.2.1 sb.2.2.2.2.2.1 sb.2.2.2.2.2.2), (ad 6, eI 81 (ca 6) sb.1), (ad 7, eI 81 (ca 7) sb.2.2.2.1), (ad 8, eL 32 (ca 8) sb.2.2.2.2.1)] [(ca 4, .int), (ca 5, .int), (ca 9, .int), (ca 10, .int), (ca 11, .int), (ca 12, .int), (ca 13, .long), (ca 14, .int), (ca 15, .int), (ca 16, .int), (ca 6, .int), (ca 7, .int), (ca 8, .long)]) (kw_Qi (dC, dI) vC [(ca 4, .int), (ca 5, .int), (ca 9, .int), (ca 10, .int), (ca 11, .int), (ca 12, .int), (ca 13, .long), (ca 14, .int), (ca 15, .int), (ca 16, .int), (ca 6, .int), (ca 7, .int), (ca 8, .long)] (va_A [(ad 0, eH ad (nI nn) (nI mo) ga se), (ad 2, eT ad (nI tb.1) tb.2.2.2.2.2.2.1 tb.2.2.2.2.2.2.2.1), (ad 3, eP ad), (ad 4, eI 2 (ca 4) one), (ad 5, eI 2 (ca 5) zer), (ad 9, eI 81 (ca 9) tb.2.1), (ad 10, eI 81 (ca 10) tb.2.2.1), (ad 11, eI 81 (ca 11) tb.2.2.2.1), (ad 12, eI 81 (ca 12) tb.2.2.2.2.1), (ad 13, eL 81 (ca 13) tb.2.2.2.2.2.1), (ad 14, eI 81 (ca 14) tb.2.2.2.2.2.2.2.2), (ad 15, eI 81 (ca 15) pin), (ad 16, eI 81 (ca 16) psz), (ad 1, eS ad (nI sb.2.1) sb.2.2.1 sb.2.2.2.2.2.1 sb.2.2.2.2.2.2), (ad 6, eI 81 (ca 6) sb.1), (ad 7, eI 81 (ca 7) sb.2.2.2.1), (ad 8, eL 32 (ca 8) sb.2.2.2.2.1)] sz) [(ad 0, eH ad (nI nn) (nI mo) (gs ga) (gs se)), (ad 2, eT ad (nI tg.1) tg.2.2.2.2.2.2.1 tg.2.2.2.2.2.2.2.1), (ad 3, eP ad), (ad 4, eI 2 (ca 4) one), (ad 5, eI 2 (ca 5) zer), (ad 9, eI 81 (ca 9) tg.2.1), (ad 10, eI 81 (ca 10) tg.2.2.1), (ad 11, eI 81 (ca 11) tg.2.2.2.1), (ad 12, eI 81 (ca 12) tg.2.2.2.2.1), (ad 13, eL 81 (ca 13) tg.2.2.2.2.2.1), (ad 14, eI 81 (ca 14) tg.2.2.2.2.2.2.2.2), (ad 15, eI 81 (ca 15) pin), (ad 16, eI 81 (ca 16) psz), (ad 1, eS ad (nI sg.2.1) sg.2.2.1 sg.2.2.2.2.2.1 sg.2.2.2.2.2.2), (ad 6, eI 81 (ca 6) sg.1), (ad 7, eI 81 (ca 7) sg.2.2.2.1), (ad 8, eL 32 (ca 8) sg.2.2.2.2.1)] (nI sg.2.1)) 0 0 (va_A [(ad 0, eH ad (nI nn) (nI mo) ga se), (ad 2, eT ad (nI tb.1) tb.2.2.2.2.2.2.1 tb.2.2.2.2.2.2.2.1), (ad 3, eP ad), (ad 4, eI 2 (ca 4) one), (ad 5, eI 2 (ca 5) zer), (ad 9, eI 81 (ca 9) tb.2.1), (ad 10, eI 81 (ca 10) tb.2.2.1), (ad 11, eI 81 (ca 11) tb.2.2.2.1), (ad 12, eI 81 (ca 12) tb.2.2.2.2.1), (ad 13, eL 81 (ca 13) tb.2.2.2.2.2.1), (ad 14, eI 81 (ca 14) tb.2.2.2.2.2.2.2.2), (ad 15, eI 81 (ca 15) pin), (ad 16, eI 81 (ca 16) psz), (ad 1, eS ad (nI sb.2.1) sb.2.2.1 sb.2.2.2.2.2.1 sb.2.2.2.2.2.2), (ad 6, eI 81 (ca 6) sb.1), (ad 7, eI 81 (ca 7) sb.2.2.2.1), (ad 8, eL 32 (ca 8) sb.2.2.2.2.1)] sz) := by
  refine Met.ofW (cc := b_H_least) (maxL := 1) (ret := (some .int)) (by decide) rfl ?_
  intro p e s m args below meth c s₁ B hml hv
  obtain ⟨⟨rfl, hsz, hP, hK, hD0⟩, hX⟩ := hv
  have hx := B.exec
  have hb := B.bytes
  have hr := B.returns
  have hts := atoms_spec (ws := w_H_least) B.pre
  have hlocks := B.notSynchronized
  have hown : s.vm.findClass R_H = some m.cls := findClass_of_methodNamed B.named
  subst hsz
  have hD := hD0.self (sz := s.heap.size)
  generalize hAe : va_A [(ad 0, eH ad (nI nn) (nI mo) ga se), (ad 2, eT ad (nI tb.1) tb.2.2.2.2.2.2.1 tb.2.2.2.2.2.2.2.1), (ad 3, eP ad), (ad 4, eI 2 (ca 4) one), (ad 5, eI 2 (ca 5) zer), (ad 9, eI 81 (ca 9) tb.2.1), (ad 10, eI 81 (ca 10) tb.2.2.1), (ad 11, eI 81 (ca 11) tb.2.2.2.1), (ad 12, eI 81 (ca 12) tb.2.2.2.2.1), (ad 13, eL 81 (ca 13) tb.2.2.2.2.2.1), (ad 14, eI 81 (ca 14) tb.2.2.2.2.2.2.2.2), (ad 15, eI 81 (ca 15) pin), (ad 16, eI 81 (ca 16) psz), (ad 1, eS ad (nI sb.2.1) sb.2.2.1 sb.2.2.2.2.2.1 sb.2.2.2.2.2.2), (ad 6, eI 81 (ca 6) sb.1), (ad 7, eI 81 (ca 7) sb.2.2.2.1), (ad 8, eL 32 (ca 8) sb.2.2.2.2.1)] s.heap.size = A at hD hX ⊢
  have hA : ∀ q : Nat, s.heap.size ≤ q → A q := fun q h => by rw [← hAe]; exact Or.inr h
  have hS : va_S A s.heap s.heap [] := va_S.rf
  have hP : va_P (dC, dI) vC [(ad 0, eH ad (nI nn) (nI mo) ga se), (ad 2, eT ad (nI tb.1) tb.2.2.2.2.2.2.1 tb.2.2.2.2.2.2.2.1), (ad 3, eP ad), (ad 4, eI 2 (ca 4) one), (ad 5, eI 2 (ca 5) zer), (ad 9, eI 81 (ca 9) tb.2.1), (ad 10, eI 81 (ca 10) tb.2.2.1), (ad 11, eI 81 (ca 11) tb.2.2.2.1), (ad 12, eI 81 (ca 12) tb.2.2.2.2.1), (ad 13, eL 81 (ca 13) tb.2.2.2.2.2.1), (ad 14, eI 81 (ca 14) tb.2.2.2.2.2.2.2.2), (ad 15, eI 81 (ca 15) pin), (ad 16, eI 81 (ca 16) psz), (ad 1, eS ad (nI sb.2.1) sb.2.2.1 sb.2.2.2.2.2.1 sb.2.2.2.2.2.2), (ad 6, eI 81 (ca 6) sb.1), (ad 7, eI 81 (ca 7) sb.2.2.2.1), (ad 8, eL 32 (ca 8) sb.2.2.2.2.1)] s.heap := hP
  have hl := lv_entry ([.ref (ad 0)]) (n := 1) (Nat.le_of_ble_eq_true rfl)
  rw [lg_entry_eq]
  generalize (lg_sl ([.ref (ad 0)]) ++ List.replicate (1 - (lg_sl ([.ref (ad 0)])).length) Slot.unset).toArray = ls at hl ⊢
  have hl : lv_has ls 1 [(0, .ref (ad 0))] := hl
  refine lv_aload_n hx hb d_H_least_0 rfl (lv_at hl 0 rfl) ?_
  have hPc := hP.sub (ws' := [(ad 0, eH ad (nI nn) (nI mo) ga se), (ad 2, eT ad (nI tb.1) tb.2.2.2.2.2.2.1 tb.2.2.2.2.2.2.2.1), (ad 3, eP ad), (ad 4, eI 2 (ca 4) one), (ad 5, eI 2 (ca 5) zer), (ad 9, eI 81 (ca 9) tb.2.1), (ad 10, eI 81 (ca 10) tb.2.2.1), (ad 11, eI 81 (ca 11) tb.2.2.2.1), (ad 12, eI 81 (ca 12) tb.2.2.2.2.1), (ad 13, eL 81 (ca 13) tb.2.2.2.2.2.1), (ad 14, eI 81 (ca 14) tb.2.2.2.2.2.2.2.2), (ad 15, eI 81 (ca 15) pin), (ad 16, eI 81 (ca 16) psz), (ad 1, eS ad (nI sb.2.1) sb.2.2.1 sb.2.2.2.2.2.1 sb.2.2.2.2.2.2), (ad 6, eI 81 (ca 6) sb.1), (ad 7, eI 81 (ca 7) sb.2.2.2.1), (ad 8, eL 32 (ca 8) sb.2.2.2.2.1)]) [0, 1, 2, 3, 4, 5, 6, 7, 8, 9, 10, 11, 12, 13, 14, 15, 16] rfl
  have hDc := hD.sub (ws' := [(ad 0, eH ad (nI nn) (nI mo) ga se), (ad 2, eT ad (nI tb.1) tb.2.2.2.2.2.2.1 tb.2.2.2.2.2.2.2.1), (ad 3, eP ad), (ad 4, eI 2 (ca 4) one), (ad 5, eI 2 (ca 5) zer), (ad 9, eI 81 (ca 9) tb.2.1), (ad 10, eI 81 (ca 10) tb.2.2.1), (ad 11, eI 81 (ca 11) tb.2.2.2.1), (ad 12, eI 81 (ca 12) tb.2.2.2.2.1), (ad 13, eL 81 (ca 13) tb.2.2.2.2.2.1), (ad 14, eI 81 (ca 14) tb.2.2.2.2.2.2.2.2), (ad 15, eI 81 (ca 15) pin), (ad 16, eI 81 (ca 16) psz), (ad 1, eS ad (nI sb.2.1) sb.2.2.1 sb.2.2.2.2.2.1 sb.2.2.2.2.2.2), (ad 6, eI 81 (ca 6) sb.1), (ad 7, eI 81 (ca 7) sb.2.2.2.1), (ad 8, eL 32 (ca 8) sb.2.2.2.2.1)]) [0, 1, 2, 3, 4, 5, 6, 7, 8, 9, 10, 11, 12, 13, 14, 15, 16] (by decide) rfl
  have hKc := hK.sub (tys' := [(ca 4, .int), (ca 5, .int), (ca 9, .int), (ca 10, .int), (ca 11, .int), (ca 12, .int), (ca 13, .long), (ca 14, .int), (ca 15, .int), (ca 16, .int), (ca 6, .int), (ca 7, .int), (ca 8, .long)]) [0, 1, 2, 3, 4, 5, 6, 7, 8, 9, 10, 11, 12] rfl
  refine kw_callv (wr := []) (wf := [(ad 0, eH ad (nI nn) (nI mo) (gs ga) (gs se)), (ad 2, eT ad (nI tg.1) tg.2.2.2.2.2.2.1 tg.2.2.2.2.2.2.2.1), (ad 3, eP ad), (ad 4, eI 2 (ca 4) one), (ad 5, eI 2 (ca 5) zer), (ad 9, eI 81 (ca 9) tg.2.1), (ad 10, eI 81 (ca 10) tg.2.2.1), (ad 11, eI 81 (ca 11) tg.2.2.2.1), (ad 12, eI 81 (ca 12) tg.2.2.2.2.1), (ad 13, eL 81 (ca 13) tg.2.2.2.2.2.1), (ad 14, eI 81 (ca 14) tg.2.2.2.2.2.2.2.2), (ad 15, eI 81 (ca 15) pin), (ad 16, eI 81 (ca 16) psz), (ad 1, eS ad (nI sg.2.1) sg.2.2.1 sg.2.2.2.2.2.1 sg.2.2.2.2.2.2), (ad 6, eI 81 (ca 6) sg.1), (ad 7, eI 81 (ca 7) sg.2.2.2.1), (ad 8, eL 32 (ca 8) sg.2.2.2.2.1)]) (va_runV (As := []) (rest := []) ⟨hx, hb, hml, hown, hts⟩ (c_solve l dC dI ad ca tP tI nn mo hnn hmo ga se one zer pin psz tb tg htg sb sg hsg h63 _) (cwV 0 hts (gd_V mw_247 mw_249 mw_8 mw_40 mw_250) rfl rfl rfl (by decide +kernel) ⟨Nat.le_of_ble_eq_true rfl, Nat.le_of_ble_eq_true rfl⟩) (kw_VX (q0 := 0) (ci := 3) hKc hPc hDc rfl rfl hX hS (va_free hD hS hA [0, 1, 2, 3, 4, 5, 6, 7, 8, 9, 10, 11, 12, 13, 14, 15, 16] rfl)) rfl rfl hl.1 rfl (lv_room (Nat.le_of_ble_eq_true rfl)) d_H_least_1 ⟨Nat.zero_le _, Nat.zero_le _⟩) hP hD hS hA [0, 1, 2, 3, 4, 5, 6, 7, 8, 9, 10, 11, 12, 13, 14, 15, 16] [] rfl rfl (by decide) (by decide) (fun H locs hP hD hS => ?_)
  have hP : va_P (dC, dI) vC [(ad 0, eH ad (nI nn) (nI mo) (gs ga) (gs se)), (ad 2, eT ad (nI tg.1) tg.2.2.2.2.2.2.1 tg.2.2.2.2.2.2.2.1), (ad 3, eP ad), (ad 4, eI 2 (ca 4) one), (ad 5, eI 2 (ca 5) zer), (ad 9, eI 81 (ca 9) tg.2.1), (ad 10, eI 81 (ca 10) tg.2.2.1), (ad 11, eI 81 (ca 11) tg.2.2.2.1), (ad 12, eI 81 (ca 12) tg.2.2.2.2.1), (ad 13, eL 81 (ca 13) tg.2.2.2.2.2.1), (ad 14, eI 81 (ca 14) tg.2.2.2.2.2.2.2.2), (ad 15, eI 81 (ca 15) pin), (ad 16, eI 81 (ca 16) psz), (ad 1, eS ad (nI sg.2.1) sg.2.2.1 sg.2.2.2.2.2.1 sg.2.2.2.2.2.2), (ad 6, eI 81 (ca 6) sg.1), (ad 7, eI 81 (ca 7) sg.2.2.2.1), (ad 8, eL 32 (ca 8) sg.2.2.2.2.1)] H := hP
  have hD : va_D A [(ad 0, eH ad (nI nn) (nI mo) (gs ga) (gs se)), (ad 2, eT ad (nI tg.1) tg.2.2.2.2.2.2.1 tg.2.2.2.2.2.2.2.1), (ad 3, eP ad), (ad 4, eI 2 (ca 4) one), (ad 5, eI 2 (ca 5) zer), (ad 9, eI 81 (ca 9) tg.2.1), (ad 10, eI 81 (ca 10) tg.2.2.1), (ad 11, eI 81 (ca 11) tg.2.2.2.1), (ad 12, eI 81 (ca 12) tg.2.2.2.2.1), (ad 13, eL 81 (ca 13) tg.2.2.2.2.2.1), (ad 14, eI 81 (ca 14) tg.2.2.2.2.2.2.2.2), (ad 15, eI 81 (ca 15) pin), (ad 16, eI 81 (ca 16) psz), (ad 1, eS ad (nI sg.2.1) sg.2.2.1 sg.2.2.2.2.2.1 sg.2.2.2.2.2.2), (ad 6, eI 81 (ca 6) sg.1), (ad 7, eI 81 (ca 7) sg.2.2.2.1), (ad 8, eL 32 (ca 8) sg.2.2.2.2.1)] := hD
  refine lv_aload_n hx hb d_H_least_4 rfl (lv_at hl 0 rfl) ?_
  refine va_get (D := (dC, dI)) (ci := 3) (v := .ref (ad 1)) (C := R_H) (T := F_H) (N := 8) hx hb hts (hin_of in_H) hown hK hP 0 rfl rfl 2 (by decide) (hw_of hts mw_181) (fun _ h9 => h9) rfl d_H_least_5 ?_
  refine va_get (D := (dC, dI)) (ci := 2) (v := .int (nI sg.2.1)) (C := R_S) (T := F_S) (N := 8) hx hb hts (hin_of in_S) hown hK hP 13 rfl rfl 1 (by decide) (hw_of hts mw_141) (fun _ h9 => h9) rfl d_H_least_8 ?_
  exact W.iret (v := nI sg.2.1) hx hb hr (fun t ht hW => by exact kw_endi hP hD hK hS [0, 1, 2, 3, 4, 5, 6, 7, 8, 9, 10, 11, 12, 13, 14, 15, 16] rfl (by decide) rfl ht hW.alike) hS.2.2 d_H_least_11
set_option maxHeartbeats 4000000 in
set_option maxRecDepth 100000 in
theorem c_parts (l : Launch) (dC : Nat → ClassId) (dI : Nat → Nat → Nat) (ad : Nat → Nat) (ca : Nat → ClassId) (tP tI : Nat) (nn : Nat) (mo : Nat) (hnn : nn ≤ 4) (hmo : mo ≤ 2) (ga : Int32) (se : Int32) (one : Nat → Int32) (zer : Nat → Int32) (pin : Nat → Int32) (psz : Nat → Int32) (tb : TB) (tg : TB) (htg : tg = m_gath ga nn mo one zer pin psz tb) (sb : SB) (sg : SB) (hsg : sg = m_solv se tg sb) (h63 : tg.1 ≤ 63) (sz : Nat) : Met l y_H_parts w_H_parts ({ frames := 42, cells := 0, slots := 0, locals := 1500 }) (kw_PX tP tI [.ref (ad 0)] sz (dC, dI) vC [(ad 0, eH ad (nI nn) (nI mo) ga se), (ad 2, eT ad (nI tb.1) tb.2.2.2.2.2.2.1 tb.2.2.2.2.2.2.2.1), (ad 3, eP ad), (ad 4, eI 2 (ca 4) one), (ad 5, eI 2 (ca 5) zer), (ad 9, eI 81 (ca 9) tb.2.1), (ad 10, eI 81 (ca 10) tb.2.2.1), (ad 11, eI 81 (ca 11) tb.2.2.2.1), (ad 12, eI 81 (ca 12) tb.2.2.2.2.1), (ad 13, eL 81 (ca 13) tb.2.2.2.2.2.1), (ad 14, eI 81 (ca 14) tb.2.2.2.2.2.2.2.2), (ad 15, eI 81 (ca 15) pin), (ad 16, eI 81 (ca 16) psz), (ad 1, eS ad (nI sb.2.1) sb.2.2.1 sb.2.2.2.2.2.1 sb.2.2.2.2.2.2), (ad 6, eI 81 (ca 6) sb.1), (ad 7, eI 81 (ca 7) sb.2.2.2.1), (ad 8, eL 32 (ca 8) sb.2.2.2.2.1)] [(ca 4, .int), (ca 5, .int), (ca 9, .int), (ca 10, .int), (ca 11, .int), (ca 12, .int), (ca 13, .long), (ca 14, .int), (ca 15, .int), (ca 16, .int), (ca 6, .int), (ca 7, .int), (ca 8, .long)]) (kw_Qi (dC, dI) vC [(ca 4, .int), (ca 5, .int), (ca 9, .int), (ca 10, .int), (ca 11, .int), (ca 12, .int), (ca 13, .long), (ca 14, .int), (ca 15, .int), (ca 16, .int), (ca 6, .int), (ca 7, .int), (ca 8, .long)] (va_A [(ad 0, eH ad (nI nn) (nI mo) ga se), (ad 2, eT ad (nI tb.1) tb.2.2.2.2.2.2.1 tb.2.2.2.2.2.2.2.1), (ad 3, eP ad), (ad 4, eI 2 (ca 4) one), (ad 5, eI 2 (ca 5) zer), (ad 9, eI 81 (ca 9) tb.2.1), (ad 10, eI 81 (ca 10) tb.2.2.1), (ad 11, eI 81 (ca 11) tb.2.2.2.1), (ad 12, eI 81 (ca 12) tb.2.2.2.2.1), (ad 13, eL 81 (ca 13) tb.2.2.2.2.2.1), (ad 14, eI 81 (ca 14) tb.2.2.2.2.2.2.2.2), (ad 15, eI 81 (ca 15) pin), (ad 16, eI 81 (ca 16) psz), (ad 1, eS ad (nI sb.2.1) sb.2.2.1 sb.2.2.2.2.2.1 sb.2.2.2.2.2.2), (ad 6, eI 81 (ca 6) sb.1), (ad 7, eI 81 (ca 7) sb.2.2.2.1), (ad 8, eL 32 (ca 8) sb.2.2.2.2.1)] sz) [(ad 0, eH ad (nI nn) (nI mo) (gs ga) (gs se)), (ad 2, eT ad (nI tg.1) tg.2.2.2.2.2.2.1 tg.2.2.2.2.2.2.2.1), (ad 3, eP ad), (ad 4, eI 2 (ca 4) one), (ad 5, eI 2 (ca 5) zer), (ad 9, eI 81 (ca 9) tg.2.1), (ad 10, eI 81 (ca 10) tg.2.2.1), (ad 11, eI 81 (ca 11) tg.2.2.2.1), (ad 12, eI 81 (ca 12) tg.2.2.2.2.1), (ad 13, eL 81 (ca 13) tg.2.2.2.2.2.1), (ad 14, eI 81 (ca 14) tg.2.2.2.2.2.2.2.2), (ad 15, eI 81 (ca 15) pin), (ad 16, eI 81 (ca 16) psz), (ad 1, eS ad (nI sg.2.1) sg.2.2.1 sg.2.2.2.2.2.1 sg.2.2.2.2.2.2), (ad 6, eI 81 (ca 6) sg.1), (ad 7, eI 81 (ca 7) sg.2.2.2.1), (ad 8, eL 32 (ca 8) sg.2.2.2.2.1)] sg.2.2.1) 0 0 (va_A [(ad 0, eH ad (nI nn) (nI mo) ga se), (ad 2, eT ad (nI tb.1) tb.2.2.2.2.2.2.1 tb.2.2.2.2.2.2.2.1), (ad 3, eP ad), (ad 4, eI 2 (ca 4) one), (ad 5, eI 2 (ca 5) zer), (ad 9, eI 81 (ca 9) tb.2.1), (ad 10, eI 81 (ca 10) tb.2.2.1), (ad 11, eI 81 (ca 11) tb.2.2.2.1), (ad 12, eI 81 (ca 12) tb.2.2.2.2.1), (ad 13, eL 81 (ca 13) tb.2.2.2.2.2.1), (ad 14, eI 81 (ca 14) tb.2.2.2.2.2.2.2.2), (ad 15, eI 81 (ca 15) pin), (ad 16, eI 81 (ca 16) psz), (ad 1, eS ad (nI sb.2.1) sb.2.2.1 sb.2.2.2.2.2.1 sb.2.2.2.2.2.2), (ad 6, eI 81 (ca 6) sb.1), (ad 7, eI 81 (ca 7) sb.2.2.2.1), (ad 8, eL 32 (ca 8) sb.2.2.2.2.1)] sz) := by
  refine Met.ofW (cc := b_H_parts) (maxL := 1) (ret := (some .int)) (by decide) rfl ?_
  intro p e s m args below meth c s₁ B hml hv
  obtain ⟨⟨rfl, hsz, hP, hK, hD0⟩, hX⟩ := hv
  have hx := B.exec
  have hb := B.bytes
  have hr := B.returns
  have hts := atoms_spec (ws := w_H_parts) B.pre
  have hlocks := B.notSynchronized
  have hown : s.vm.findClass R_H = some m.cls := findClass_of_methodNamed B.named
  subst hsz
  have hD := hD0.self (sz := s.heap.size)
  generalize hAe : va_A [(ad 0, eH ad (nI nn) (nI mo) ga se), (ad 2, eT ad (nI tb.1) tb.2.2.2.2.2.2.1 tb.2.2.2.2.2.2.2.1), (ad 3, eP ad), (ad 4, eI 2 (ca 4) one), (ad 5, eI 2 (ca 5) zer), (ad 9, eI 81 (ca 9) tb.2.1), (ad 10, eI 81 (ca 10) tb.2.2.1), (ad 11, eI 81 (ca 11) tb.2.2.2.1), (ad 12, eI 81 (ca 12) tb.2.2.2.2.1), (ad 13, eL 81 (ca 13) tb.2.2.2.2.2.1), (ad 14, eI 81 (ca 14) tb.2.2.2.2.2.2.2.2), (ad 15, eI 81 (ca 15) pin), (ad 16, eI 81 (ca 16) psz), (ad 1, eS ad (nI sb.2.1) sb.2.2.1 sb.2.2.2.2.2.1 sb.2.2.2.2.2.2), (ad 6, eI 81 (ca 6) sb.1), (ad 7, eI 81 (ca 7) sb.2.2.2.1), (ad 8, eL 32 (ca 8) sb.2.2.2.2.1)] s.heap.size = A at hD hX ⊢
  have hA : ∀ q : Nat, s.heap.size ≤ q → A q := fun q h => by rw [← hAe]; exact Or.inr h
  have hS : va_S A s.heap s.heap [] := va_S.rf
  have hP : va_P (dC, dI) vC [(ad 0, eH ad (nI nn) (nI mo) ga se), (ad 2, eT ad (nI tb.1) tb.2.2.2.2.2.2.1 tb.2.2.2.2.2.2.2.1), (ad 3, eP ad), (ad 4, eI 2 (ca 4) one), (ad 5, eI 2 (ca 5) zer), (ad 9, eI 81 (ca 9) tb.2.1), (ad 10, eI 81 (ca 10) tb.2.2.1), (ad 11, eI 81 (ca 11) tb.2.2.2.1), (ad 12, eI 81 (ca 12) tb.2.2.2.2.1), (ad 13, eL 81 (ca 13) tb.2.2.2.2.2.1), (ad 14, eI 81 (ca 14) tb.2.2.2.2.2.2.2.2), (ad 15, eI 81 (ca 15) pin), (ad 16, eI 81 (ca 16) psz), (ad 1, eS ad (nI sb.2.1) sb.2.2.1 sb.2.2.2.2.2.1 sb.2.2.2.2.2.2), (ad 6, eI 81 (ca 6) sb.1), (ad 7, eI 81 (ca 7) sb.2.2.2.1), (ad 8, eL 32 (ca 8) sb.2.2.2.2.1)] s.heap := hP
  have hl := lv_entry ([.ref (ad 0)]) (n := 1) (Nat.le_of_ble_eq_true rfl)
  rw [lg_entry_eq]
  generalize (lg_sl ([.ref (ad 0)]) ++ List.replicate (1 - (lg_sl ([.ref (ad 0)])).length) Slot.unset).toArray = ls at hl ⊢
  have hl : lv_has ls 1 [(0, .ref (ad 0))] := hl
  refine lv_aload_n hx hb d_H_parts_0 rfl (lv_at hl 0 rfl) ?_
  have hPc := hP.sub (ws' := [(ad 0, eH ad (nI nn) (nI mo) ga se), (ad 2, eT ad (nI tb.1) tb.2.2.2.2.2.2.1 tb.2.2.2.2.2.2.2.1), (ad 3, eP ad), (ad 4, eI 2 (ca 4) one), (ad 5, eI 2 (ca 5) zer), (ad 9, eI 81 (ca 9) tb.2.1), (ad 10, eI 81 (ca 10) tb.2.2.1), (ad 11, eI 81 (ca 11) tb.2.2.2.1), (ad 12, eI 81 (ca 12) tb.2.2.2.2.1), (ad 13, eL 81 (ca 13) tb.2.2.2.2.2.1), (ad 14, eI 81 (ca 14) tb.2.2.2.2.2.2.2.2), (ad 15, eI 81 (ca 15) pin), (ad 16, eI 81 (ca 16) psz), (ad 1, eS ad (nI sb.2.1) sb.2.2.1 sb.2.2.2.2.2.1 sb.2.2.2.2.2.2), (ad 6, eI 81 (ca 6) sb.1), (ad 7, eI 81 (ca 7) sb.2.2.2.1), (ad 8, eL 32 (ca 8) sb.2.2.2.2.1)]) [0, 1, 2, 3, 4, 5, 6, 7, 8, 9, 10, 11, 12, 13, 14, 15, 16] rfl
  have hDc := hD.sub (ws' := [(ad 0, eH ad (nI nn) (nI mo) ga se), (ad 2, eT ad (nI tb.1) tb.2.2.2.2.2.2.1 tb.2.2.2.2.2.2.2.1), (ad 3, eP ad), (ad 4, eI 2 (ca 4) one), (ad 5, eI 2 (ca 5) zer), (ad 9, eI 81 (ca 9) tb.2.1), (ad 10, eI 81 (ca 10) tb.2.2.1), (ad 11, eI 81 (ca 11) tb.2.2.2.1), (ad 12, eI 81 (ca 12) tb.2.2.2.2.1), (ad 13, eL 81 (ca 13) tb.2.2.2.2.2.1), (ad 14, eI 81 (ca 14) tb.2.2.2.2.2.2.2.2), (ad 15, eI 81 (ca 15) pin), (ad 16, eI 81 (ca 16) psz), (ad 1, eS ad (nI sb.2.1) sb.2.2.1 sb.2.2.2.2.2.1 sb.2.2.2.2.2.2), (ad 6, eI 81 (ca 6) sb.1), (ad 7, eI 81 (ca 7) sb.2.2.2.1), (ad 8, eL 32 (ca 8) sb.2.2.2.2.1)]) [0, 1, 2, 3, 4, 5, 6, 7, 8, 9, 10, 11, 12, 13, 14, 15, 16] (by decide) rfl
  have hKc := hK.sub (tys' := [(ca 4, .int), (ca 5, .int), (ca 9, .int), (ca 10, .int), (ca 11, .int), (ca 12, .int), (ca 13, .long), (ca 14, .int), (ca 15, .int), (ca 16, .int), (ca 6, .int), (ca 7, .int), (ca 8, .long)]) [0, 1, 2, 3, 4, 5, 6, 7, 8, 9, 10, 11, 12] rfl
  refine kw_callv (wr := []) (wf := [(ad 0, eH ad (nI nn) (nI mo) (gs ga) (gs se)), (ad 2, eT ad (nI tg.1) tg.2.2.2.2.2.2.1 tg.2.2.2.2.2.2.2.1), (ad 3, eP ad), (ad 4, eI 2 (ca 4) one), (ad 5, eI 2 (ca 5) zer), (ad 9, eI 81 (ca 9) tg.2.1), (ad 10, eI 81 (ca 10) tg.2.2.1), (ad 11, eI 81 (ca 11) tg.2.2.2.1), (ad 12, eI 81 (ca 12) tg.2.2.2.2.1), (ad 13, eL 81 (ca 13) tg.2.2.2.2.2.1), (ad 14, eI 81 (ca 14) tg.2.2.2.2.2.2.2.2), (ad 15, eI 81 (ca 15) pin), (ad 16, eI 81 (ca 16) psz), (ad 1, eS ad (nI sg.2.1) sg.2.2.1 sg.2.2.2.2.2.1 sg.2.2.2.2.2.2), (ad 6, eI 81 (ca 6) sg.1), (ad 7, eI 81 (ca 7) sg.2.2.2.1), (ad 8, eL 32 (ca 8) sg.2.2.2.2.1)]) (va_runV (As := []) (rest := []) ⟨hx, hb, hml, hown, hts⟩ (c_solve l dC dI ad ca tP tI nn mo hnn hmo ga se one zer pin psz tb tg htg sb sg hsg h63 _) (cwV 0 hts (gd_V mw_247 mw_249 mw_8 mw_40 mw_250) rfl rfl rfl (by decide +kernel) ⟨Nat.le_of_ble_eq_true rfl, Nat.le_of_ble_eq_true rfl⟩) (kw_VX (q0 := 0) (ci := 3) hKc hPc hDc rfl rfl hX hS (va_free hD hS hA [0, 1, 2, 3, 4, 5, 6, 7, 8, 9, 10, 11, 12, 13, 14, 15, 16] rfl)) rfl rfl hl.1 rfl (lv_room (Nat.le_of_ble_eq_true rfl)) d_H_parts_1 ⟨Nat.zero_le _, Nat.zero_le _⟩) hP hD hS hA [0, 1, 2, 3, 4, 5, 6, 7, 8, 9, 10, 11, 12, 13, 14, 15, 16] [] rfl rfl (by decide) (by decide) (fun H locs hP hD hS => ?_)
  have hP : va_P (dC, dI) vC [(ad 0, eH ad (nI nn) (nI mo) (gs ga) (gs se)), (ad 2, eT ad (nI tg.1) tg.2.2.2.2.2.2.1 tg.2.2.2.2.2.2.2.1), (ad 3, eP ad), (ad 4, eI 2 (ca 4) one), (ad 5, eI 2 (ca 5) zer), (ad 9, eI 81 (ca 9) tg.2.1), (ad 10, eI 81 (ca 10) tg.2.2.1), (ad 11, eI 81 (ca 11) tg.2.2.2.1), (ad 12, eI 81 (ca 12) tg.2.2.2.2.1), (ad 13, eL 81 (ca 13) tg.2.2.2.2.2.1), (ad 14, eI 81 (ca 14) tg.2.2.2.2.2.2.2.2), (ad 15, eI 81 (ca 15) pin), (ad 16, eI 81 (ca 16) psz), (ad 1, eS ad (nI sg.2.1) sg.2.2.1 sg.2.2.2.2.2.1 sg.2.2.2.2.2.2), (ad 6, eI 81 (ca 6) sg.1), (ad 7, eI 81 (ca 7) sg.2.2.2.1), (ad 8, eL 32 (ca 8) sg.2.2.2.2.1)] H := hP
  have hD : va_D A [(ad 0, eH ad (nI nn) (nI mo) (gs ga) (gs se)), (ad 2, eT ad (nI tg.1) tg.2.2.2.2.2.2.1 tg.2.2.2.2.2.2.2.1), (ad 3, eP ad), (ad 4, eI 2 (ca 4) one), (ad 5, eI 2 (ca 5) zer), (ad 9, eI 81 (ca 9) tg.2.1), (ad 10, eI 81 (ca 10) tg.2.2.1), (ad 11, eI 81 (ca 11) tg.2.2.2.1), (ad 12, eI 81 (ca 12) tg.2.2.2.2.1), (ad 13, eL 81 (ca 13) tg.2.2.2.2.2.1), (ad 14, eI 81 (ca 14) tg.2.2.2.2.2.2.2.2), (ad 15, eI 81 (ca 15) pin), (ad 16, eI 81 (ca 16) psz), (ad 1, eS ad (nI sg.2.1) sg.2.2.1 sg.2.2.2.2.2.1 sg.2.2.2.2.2.2), (ad 6, eI 81 (ca 6) sg.1), (ad 7, eI 81 (ca 7) sg.2.2.2.1), (ad 8, eL 32 (ca 8) sg.2.2.2.2.1)] := hD
  refine lv_aload_n hx hb d_H_parts_4 rfl (lv_at hl 0 rfl) ?_
  refine va_get (D := (dC, dI)) (ci := 3) (v := .ref (ad 1)) (C := R_H) (T := F_H) (N := 8) hx hb hts (hin_of in_H) hown hK hP 0 rfl rfl 2 (by decide) (hw_of hts mw_181) (fun _ h9 => h9) rfl d_H_parts_5 ?_
  refine va_get (D := (dC, dI)) (ci := 2) (v := .int sg.2.2.1) (C := R_S) (T := F_S) (N := 8) hx hb hts (hin_of in_S) hown hK hP 13 rfl rfl 2 (by decide) (hw_of hts mw_143) (fun _ h9 => h9) rfl d_H_parts_8 ?_
  exact W.iret (v := sg.2.2.1) hx hb hr (fun t ht hW => by exact kw_endi hP hD hK hS [0, 1, 2, 3, 4, 5, 6, 7, 8, 9, 10, 11, 12, 13, 14, 15, 16] rfl (by decide) rfl ht hW.alike) hS.2.2 d_H_parts_11
end
