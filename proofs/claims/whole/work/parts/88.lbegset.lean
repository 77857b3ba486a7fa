set_option maxHeartbeats 4000000 in
set_option maxRecDepth 100000 in
theorem c_L_begin (l : Launch) (dC : Nat → ClassId) (dI : Nat → Nat → Nat) (ad : Nat → Nat) (ca : Nat → ClassId) (ic : Int32) (oc : Int32) (ga : Int32) (se : Int32) (one : Nat → Int32) (zer : Nat → Int32) (i1 : Int32) (o1 : Int32) (hb1 : ¬ i1 < 1) (hb2 : i1 ≤ 4) (hb3 : ¬ o1 < 1) (hb4 : o1 ≤ 2) (sz : Nat) : Met l y_L_begin w_L_begin ({ frames := 10, cells := 0, slots := 0, locals := 200 }) (kw_P [.ref (ad 0), .int i1, .int o1] sz (dC, dI) vC [(ad 0, eH ad ic oc ga se), (ad 4, eI 2 (ca 4) one), (ad 5, eI 2 (ca 5) zer)] [(ca 4, .int), (ca 5, .int)]) (kw_Qi (dC, dI) vC [(ca 4, .int), (ca 5, .int)] (va_A [(ad 0, eH ad ic oc ga se), (ad 4, eI 2 (ca 4) one), (ad 5, eI 2 (ca 5) zer)] sz) [(ad 0, eH ad i1 o1 0 0), (ad 4, eI 2 (ca 4) (fo (mc_setf 0) 2 one)), (ad 5, eI 2 (ca 5) (fo (mc_setf (mc_all i1)) 2 zer))] 0) 0 0 (va_A [(ad 0, eH ad ic oc ga se), (ad 4, eI 2 (ca 4) one), (ad 5, eI 2 (ca 5) zer)] sz) := by
  refine tw_MetW (cc := b_L_begin) (maxL := 4) (ret := (some .int)) (hh := [(0, 6, 9, 13)]) (by decide) rfl ?_
  intro p e s m args below meth c s₁ B hml htab hv
  obtain ⟨rfl, hsz, hP, hK, hD0⟩ := hv
  have hx := B.exec
  have hb := B.bytes
  have hr := B.returns
  have hts := atoms_spec (ws := w_L_begin) B.pre
  have hlocks := B.notSynchronized
  have hown : s.vm.findClass R_L = some m.cls := findClass_of_methodNamed B.named
  subst hsz
  have hD := hD0.self (sz := s.heap.size)
  generalize hAe : va_A [(ad 0, eH ad ic oc ga se), (ad 4, eI 2 (ca 4) one), (ad 5, eI 2 (ca 5) zer)] s.heap.size = A at hD ⊢
  have hA : ∀ q : Nat, s.heap.size ≤ q → A q := fun q h => by rw [← hAe]; exact Or.inr h
  have hS : va_S A s.heap s.heap [] := va_S.rf
  have hP : va_P (dC, dI) vC [(ad 0, eH ad ic oc ga se), (ad 4, eI 2 (ca 4) one), (ad 5, eI 2 (ca 5) zer)] s.heap := hP
  have hl := lv_entry ([.ref (ad 0), .int i1, .int o1]) (n := 4) (Nat.le_of_ble_eq_true rfl)
  rw [lg_entry_eq]
  generalize (lg_sl ([.ref (ad 0), .int i1, .int o1]) ++ List.replicate (4 - (lg_sl ([.ref (ad 0), .int i1, .int o1])).length) Slot.unset).toArray = ls at hl ⊢
  have hl : lv_has ls 4 [(0, .ref (ad 0)), (1, .int i1), (2, .int o1)] := hl
  refine lv_aload_n hx hb d_L_begin_0 rfl (lv_at hl 0 rfl) ?_
  refine lv_iload_n hx hb d_L_begin_1 rfl (lv_at hl 1 rfl) ?_
  refine lv_iload_n hx hb d_L_begin_2 rfl (lv_at hl 2 rfl) ?_
  have hPc := hP.sub (ws' := [(ad 0, eH ad ic oc ga se), (ad 4, eI 2 (ca 4) one), (ad 5, eI 2 (ca 5) zer)]) [0, 1, 2] rfl
  have hDc := hD.sub (ws' := [(ad 0, eH ad ic oc ga se), (ad 4, eI 2 (ca 4) one), (ad 5, eI 2 (ca 5) zer)]) [0, 1, 2] (by decide) rfl
  have hKc := hK.sub (tys' := [(ca 4, .int), (ca 5, .int)]) [0, 1] rfl
  refine kw_callv (wr := []) (wf := [(ad 0, eH ad i1 o1 0 0), (ad 4, eI 2 (ca 4) (fo (mc_setf 0) 2 one)), (ad 5, eI 2 (ca 5) (fo (mc_setf (mc_all i1)) 2 zer))]) (va_runV (As := [.int i1, .int o1]) (rest := []) ⟨hx, hb, hml, hown, hts⟩ (c_begin l dC dI ad ca ic oc ga se one zer i1 o1 hb1 hb2 hb3 hb4 _) (cwV 2 hts (gd_V mw_327 mw_328 mw_329 mw_40 mw_330) rfl rfl rfl (by decide +kernel) ⟨Nat.le_of_ble_eq_true rfl, Nat.le_of_ble_eq_true rfl⟩) (kw_V (q0 := 0) (ci := 3) hKc hPc hDc rfl rfl) rfl rfl hl.1 rfl (lv_room (Nat.le_of_ble_eq_true rfl)) d_L_begin_3 ⟨Nat.zero_le _, Nat.zero_le _⟩) hP hD hS hA [0, 1, 2] [] rfl rfl (by decide) (by decide) (fun H locs hP hD hS => ?_)
  have hP : va_P (dC, dI) vC [(ad 0, eH ad i1 o1 0 0), (ad 4, eI 2 (ca 4) (fo (mc_setf 0) 2 one)), (ad 5, eI 2 (ca 5) (fo (mc_setf (mc_all i1)) 2 zer))] H := hP
  have hD : va_D A [(ad 0, eH ad i1 o1 0 0), (ad 4, eI 2 (ca 4) (fo (mc_setf 0) 2 one)), (ad 5, eI 2 (ca 5) (fo (mc_setf (mc_all i1)) 2 zer))] := hD
  refine lv_goto (tgt := 12) hx hb d_L_begin_6 (by decide) ?_
  refine lv_iconst (v := 0) hx hb d_L_begin_12 (by decide) ?_
  exact W.iret (v := 0) hx hb hr (fun t ht hW => by exact kw_endi hP hD hK hS [0, 1, 2] rfl (by decide) rfl ht hW.alike) hS.2.2 d_L_begin_13
set_option maxHeartbeats 4000000 in
set_option maxRecDepth 100000 in
theorem c_L_begin_x (l : Launch) (dC : Nat → ClassId) (dI : Nat → Nat → Nat) (ad : Nat → Nat) (ca : Nat → ClassId) (ic : Int32) (oc : Int32) (ga : Int32) (se : Int32) (i1 : Int32) (o1 : Int32) (hbad : i1 < 1 ∨ ¬ i1 ≤ 4 ∨ o1 < 1 ∨ ¬ o1 ≤ 2) (sa : Nat → Nat) (htr : l.stackTraces = false) (sz : Nat) : Met l y_L_begin w_L_begin ({ frames := 10, cells := 1, slots := 6, locals := 200 }) (kw_T sa (va_A [(ad 0, eH ad ic oc ga se)] sz) (kw_P [.ref (ad 0), .int i1, .int o1] sz (dC, dI) vC [(ad 0, eH ad ic oc ga se)] [])) (kw_Qi (dC, dI) vC [] (va_A [(ad 0, eH ad ic oc ga se)] sz) [(ad 0, eH ad ic oc ga se)] 1) 1 6 (va_A [(ad 0, eH ad ic oc ga se)] sz) := by
  refine tw_MetW (cc := b_L_begin) (maxL := 4) (ret := (some .int)) (hh := [(0, 6, 9, 13)]) (by decide) rfl ?_
  intro p e s m args below meth c s₁ B hml htab hv
  obtain ⟨⟨rfl, hsz, hP, hK, hD0⟩, hO, hss⟩ := hv
  have hx := B.exec
  have hb := B.bytes
  have hr := B.returns
  have hts := atoms_spec (ws := w_L_begin) B.pre
  have hlocks := B.notSynchronized
  have hown : s.vm.findClass R_L = some m.cls := findClass_of_methodNamed B.named
  subst hsz
  have hD := hD0.self (sz := s.heap.size)
  generalize hAe : va_A [(ad 0, eH ad ic oc ga se)] s.heap.size = A at hD hO ⊢
  have hA : ∀ q : Nat, s.heap.size ≤ q → A q := fun q h => by rw [← hAe]; exact Or.inr h
  have hS : va_S A s.heap s.heap [] := va_S.rf
  have hP : va_P (dC, dI) vC [(ad 0, eH ad ic oc ga se)] s.heap := hP
  have hl := lv_entry ([.ref (ad 0), .int i1, .int o1]) (n := 4) (Nat.le_of_ble_eq_true rfl)
  rw [lg_entry_eq]
  generalize (lg_sl ([.ref (ad 0), .int i1, .int o1]) ++ List.replicate (4 - (lg_sl ([.ref (ad 0), .int i1, .int o1])).length) Slot.unset).toArray = ls at hl ⊢
  have hl : lv_has ls 4 [(0, .ref (ad 0)), (1, .int i1), (2, .int o1)] := hl
  refine lv_aload_n hx hb d_L_begin_0 rfl (lv_at hl 0 rfl) ?_
  refine lv_iload_n hx hb d_L_begin_1 rfl (lv_at hl 1 rfl) ?_
  refine lv_iload_n hx hb d_L_begin_2 rfl (lv_at hl 2 rfl) ?_
  have hPc := hP.sub (ws' := [(ad 0, eH ad ic oc ga se)]) [0] rfl
  have hDc := hD.sub (ws' := [(ad 0, eH ad ic oc ga se)]) [0] (by decide) rfl
  have hKc := hK.sub (tys' := []) [] rfl
  refine tw_callx (As := [.int i1, .int o1]) (rest := []) (wr := []) (wf := [(ad 0, eH ad ic oc ga se)]) ⟨hx, hb, hml, hown, hts⟩ (c_begin_x l dC dI ad ca ic oc ga se i1 o1 hbad sa htr _) (cwV 2 hts (gd_V mw_327 mw_328 mw_329 mw_40 mw_330) rfl rfl rfl (by decide +kernel) ⟨Nat.le_of_ble_eq_true rfl, Nat.le_of_ble_eq_true rfl⟩) (kw_TV (kw_V (q0 := 0) (ci := 3) hKc hPc hDc rfl rfl) hO hS (va_free hD hS hA [0] rfl) hss) rfl hl.1 rfl (lv_room (Nat.le_of_ble_eq_true rfl)) d_L_begin_3 ⟨Nat.le_of_ble_eq_true rfl, Nat.le_of_ble_eq_true rfl⟩ hP hD hS hA [0] [] rfl rfl (by decide) (by decide) [] ⟨0, 6, 9, 13⟩ [] htab (fun z hz => by cases hz) (by decide) (by decide) (hw_of hts mw_326) ((hss.2.1 _ (List.mem_of_getElem? (l := nk_L) (i := 0) rfl)).use rfl) rfl (fun qx H locs hP hD hS => ?_)
  have hP : va_P (dC, dI) vC [(ad 0, eH ad ic oc ga se)] H := hP
  have hD : va_D A [(ad 0, eH ad ic oc ga se)] := hD
  refine lv_astore_n (lv' := [(3, .ref qx), (0, .ref (ad 0)), (1, .int i1), (2, .int o1)]) hx hb d_L_begin_9 rfl hl (by decide) rfl (fun ls hl => ?_)
  refine lv_iconst (v := 1) hx hb d_L_begin_10 (by decide) ?_
  exact W.iret (v := 1) hx hb hr (fun t ht hW => by exact kw_endi hP hD hK hS [0] rfl (by decide) rfl ht hW.alike) hS.2.2 d_L_begin_11
set_option maxHeartbeats 4000000 in
set_option maxRecDepth 100000 in
theorem c_L_set (l : Launch) (dC : Nat → ClassId) (dI : Nat → Nat → Nat) (ad : Nat → Nat) (ca : Nat → ClassId) (nn : Nat) (mo : Nat) (hmo : mo ≤ 2) (ga : Int32) (se : Int32) (one : Nat → Int32) (zer : Nat → Int32) (k : Nat) (p1 : Int32) (p2 : Int32) (hk : k < mo) (hz1 : (p1 ||| p2) &&& (mc_all (nI nn) ^^^ (-1)) = 0) (hz2 : p1 &&& p2 = 0) (sz : Nat) : Met l y_L_set w_L_set ({ frames := 10, cells := 0, slots := 0, locals := 200 }) (kw_P [.ref (ad 0), .int (nI k), .int p1, .int p2] sz (dC, dI) vC [(ad 0, eH ad (nI nn) (nI mo) ga se), (ad 4, eI 2 (ca 4) one), (ad 5, eI 2 (ca 5) zer)] [(ca 4, .int), (ca 5, .int)]) (kw_Qi (dC, dI) vC [(ca 4, .int), (ca 5, .int)] (va_A [(ad 0, eH ad (nI nn) (nI mo) ga se), (ad 4, eI 2 (ca 4) one), (ad 5, eI 2 (ca 5) zer)] sz) [(ad 0, eH ad (nI nn) (nI mo) 0 0), (ad 4, eI 2 (ca 4) (upd one k p1)), (ad 5, eI 2 (ca 5) (upd zer k (mc_all (nI nn) &&& ((p1 ||| p2) ^^^ (-1)))))] 0) 0 0 (va_A [(ad 0, eH ad (nI nn) (nI mo) ga se), (ad 4, eI 2 (ca 4) one), (ad 5, eI 2 (ca 5) zer)] sz) := by
  refine tw_MetW (cc := b_L_set) (maxL := 5) (ret := (some .int)) (hh := [(0, 7, 10, 19), (0, 7, 14, 13)]) (by decide) rfl ?_
  intro p e s m args below meth c s₁ B hml htab hv
  obtain ⟨rfl, hsz, hP, hK, hD0⟩ := hv
  have hx := B.exec
  have hb := B.bytes
  have hr := B.returns
  have hts := atoms_spec (ws := w_L_set) B.pre
  have hlocks := B.notSynchronized
  have hown : s.vm.findClass R_L = some m.cls := findClass_of_methodNamed B.named
  subst hsz
  have hD := hD0.self (sz := s.heap.size)
  generalize hAe : va_A [(ad 0, eH ad (nI nn) (nI mo) ga se), (ad 4, eI 2 (ca 4) one), (ad 5, eI 2 (ca 5) zer)] s.heap.size = A at hD ⊢
  have hA : ∀ q : Nat, s.heap.size ≤ q → A q := fun q h => by rw [← hAe]; exact Or.inr h
  have hS : va_S A s.heap s.heap [] := va_S.rf
  have hP : va_P (dC, dI) vC [(ad 0, eH ad (nI nn) (nI mo) ga se), (ad 4, eI 2 (ca 4) one), (ad 5, eI 2 (ca 5) zer)] s.heap := hP
  have hl := lv_entry ([.ref (ad 0), .int (nI k), .int p1, .int p2]) (n := 5) (Nat.le_of_ble_eq_true rfl)
  rw [lg_entry_eq]
  generalize (lg_sl ([.ref (ad 0), .int (nI k), .int p1, .int p2]) ++ List.replicate (5 - (lg_sl ([.ref (ad 0), .int (nI k), .int p1, .int p2])).length) Slot.unset).toArray = ls at hl ⊢
  have hl : lv_has ls 5 [(0, .ref (ad 0)), (1, .int (nI k)), (2, .int p1), (3, .int p2)] := hl
  refine lv_aload_n hx hb d_L_set_0 rfl (lv_at hl 0 rfl) ?_
  refine lv_iload_n hx hb d_L_set_1 rfl (lv_at hl 1 rfl) ?_
  refine lv_iload_n hx hb d_L_set_2 rfl (lv_at hl 2 rfl) ?_
  refine lv_iload_n hx hb d_L_set_3 rfl (lv_at hl 3 rfl) ?_
  have hPc := hP.sub (ws' := [(ad 0, eH ad (nI nn) (nI mo) ga se), (ad 4, eI 2 (ca 4) one), (ad 5, eI 2 (ca 5) zer)]) [0, 1, 2] rfl
  have hDc := hD.sub (ws' := [(ad 0, eH ad (nI nn) (nI mo) ga se), (ad 4, eI 2 (ca 4) one), (ad 5, eI 2 (ca 5) zer)]) [0, 1, 2] (by decide) rfl
  have hKc := hK.sub (tys' := [(ca 4, .int), (ca 5, .int)]) [0, 1] rfl
  refine kw_callv (wr := []) (wf := [(ad 0, eH ad (nI nn) (nI mo) 0 0), (ad 4, eI 2 (ca 4) (upd one k p1)), (ad 5, eI 2 (ca 5) (upd zer k (mc_all (nI nn) &&& ((p1 ||| p2) ^^^ (-1)))))]) (va_runV (As := [.int (nI k), .int p1, .int p2]) (rest := []) ⟨hx, hb, hml, hown, hts⟩ (c_set l dC dI ad ca nn mo hmo ga se one zer k p1 p2 hk hz1 hz2 _) (cwV 3 hts (gd_V mw_403 mw_404 mw_405 mw_40 mw_406) rfl rfl rfl (by decide +kernel) ⟨Nat.le_of_ble_eq_true rfl, Nat.le_of_ble_eq_true rfl⟩) (kw_V (q0 := 0) (ci := 3) hKc hPc hDc rfl rfl) rfl rfl hl.1 rfl (lv_room (Nat.le_of_ble_eq_true rfl)) d_L_set_4 ⟨Nat.zero_le _, Nat.zero_le _⟩) hP hD hS hA [0, 1, 2] [] rfl rfl (by decide) (by decide) (fun H locs hP hD hS => ?_)
  have hP : va_P (dC, dI) vC [(ad 0, eH ad (nI nn) (nI mo) 0 0), (ad 4, eI 2 (ca 4) (upd one k p1)), (ad 5, eI 2 (ca 5) (upd zer k (mc_all (nI nn) &&& ((p1 ||| p2) ^^^ (-1)))))] H := hP
  have hD : va_D A [(ad 0, eH ad (nI nn) (nI mo) 0 0), (ad 4, eI 2 (ca 4) (upd one k p1)), (ad 5, eI 2 (ca 5) (upd zer k (mc_all (nI nn) &&& ((p1 ||| p2) ^^^ (-1)))))] := hD
  refine lv_goto (tgt := 18) hx hb d_L_set_7 (by decide) ?_
  refine lv_iconst (v := 0) hx hb d_L_set_18 (by decide) ?_
  exact W.iret (v := 0) hx hb hr (fun t ht hW => by exact kw_endi hP hD hK hS [0, 1, 2] rfl (by decide) rfl ht hW.alike) hS.2.2 d_L_set_19
set_option maxHeartbeats 4000000 in
set_option maxRecDepth 100000 in
theorem c_L_set_o (l : Launch) (dC : Nat → ClassId) (dI : Nat → Nat → Nat) (ad : Nat → Nat) (ca : Nat → ClassId) (nn : Nat) (mo : Nat) (hmo : mo ≤ 2) (ga : Int32) (se : Int32) (o : Int32) (p1 : Int32) (p2 : Int32) (hbad : (!decide (o < 0) && !decide (nI mo ≤ o)) = false) (sa : Nat → Nat) (htr : l.stackTraces = false) (sz : Nat) : Met l y_L_set w_L_set ({ frames := 10, cells := 1, slots := 6, locals := 200 }) (kw_T sa (va_A [(ad 0, eH ad (nI nn) (nI mo) ga se)] sz) (kw_P [.ref (ad 0), .int o, .int p1, .int p2] sz (dC, dI) vC [(ad 0, eH ad (nI nn) (nI mo) ga se)] [])) (kw_Qi (dC, dI) vC [] (va_A [(ad 0, eH ad (nI nn) (nI mo) ga se)] sz) [(ad 0, eH ad (nI nn) (nI mo) ga se)] 1) 1 6 (va_A [(ad 0, eH ad (nI nn) (nI mo) ga se)] sz) := by
  refine tw_MetW (cc := b_L_set) (maxL := 5) (ret := (some .int)) (hh := [(0, 7, 10, 19), (0, 7, 14, 13)]) (by decide) rfl ?_
  intro p e s m args below meth c s₁ B hml htab hv
  obtain ⟨⟨rfl, hsz, hP, hK, hD0⟩, hO, hss⟩ := hv
  have hx := B.exec
  have hb := B.bytes
  have hr := B.returns
  have hts := atoms_spec (ws := w_L_set) B.pre
  have hlocks := B.notSynchronized
  have hown : s.vm.findClass R_L = some m.cls := findClass_of_methodNamed B.named
  subst hsz
  have hD := hD0.self (sz := s.heap.size)
  generalize hAe : va_A [(ad 0, eH ad (nI nn) (nI mo) ga se)] s.heap.size = A at hD hO ⊢
  have hA : ∀ q : Nat, s.heap.size ≤ q → A q := fun q h => by rw [← hAe]; exact Or.inr h
  have hS : va_S A s.heap s.heap [] := va_S.rf
  have hP : va_P (dC, dI) vC [(ad 0, eH ad (nI nn) (nI mo) ga se)] s.heap := hP
  have hl := lv_entry ([.ref (ad 0), .int o, .int p1, .int p2]) (n := 5) (Nat.le_of_ble_eq_true rfl)
  rw [lg_entry_eq]
  generalize (lg_sl ([.ref (ad 0), .int o, .int p1, .int p2]) ++ List.replicate (5 - (lg_sl ([.ref (ad 0), .int o, .int p1, .int p2])).length) Slot.unset).toArray = ls at hl ⊢
  have hl : lv_has ls 5 [(0, .ref (ad 0)), (1, .int o), (2, .int p1), (3, .int p2)] := hl
  refine lv_aload_n hx hb d_L_set_0 rfl (lv_at hl 0 rfl) ?_
  refine lv_iload_n hx hb d_L_set_1 rfl (lv_at hl 1 rfl) ?_
  refine lv_iload_n hx hb d_L_set_2 rfl (lv_at hl 2 rfl) ?_
  refine lv_iload_n hx hb d_L_set_3 rfl (lv_at hl 3 rfl) ?_
  have hPc := hP.sub (ws' := [(ad 0, eH ad (nI nn) (nI mo) ga se)]) [0] rfl
  have hDc := hD.sub (ws' := [(ad 0, eH ad (nI nn) (nI mo) ga se)]) [0] (by decide) rfl
  have hKc := hK.sub (tys' := []) [] rfl
  refine tw_callx (As := [.int o, .int p1, .int p2]) (rest := []) (wr := []) (wf := [(ad 0, eH ad (nI nn) (nI mo) ga se)]) ⟨hx, hb, hml, hown, hts⟩ (c_set_o l dC dI ad ca nn mo hmo ga se o p1 p2 hbad sa htr _) (cwV 3 hts (gd_V mw_403 mw_404 mw_405 mw_40 mw_406) rfl rfl rfl (by decide +kernel) ⟨Nat.le_of_ble_eq_true rfl, Nat.le_of_ble_eq_true rfl⟩) (kw_TV (kw_V (q0 := 0) (ci := 3) hKc hPc hDc rfl rfl) hO hS (va_free hD hS hA [0] rfl) hss) rfl hl.1 rfl (lv_room (Nat.le_of_ble_eq_true rfl)) d_L_set_4 ⟨Nat.le_of_ble_eq_true rfl, Nat.le_of_ble_eq_true rfl⟩ hP hD hS hA [0] [] rfl rfl (by decide) (by decide) [] ⟨0, 7, 10, 19⟩ [⟨0, 7, 14, 13⟩] htab (fun z hz => by cases hz) (by decide) (by decide) (hw_of hts mw_402) ((hss.2.1 _ (List.mem_of_getElem? (l := nk_L) (i := 1) rfl)).use rfl) rfl (fun qx H locs hP hD hS => ?_)
  have hP : va_P (dC, dI) vC [(ad 0, eH ad (nI nn) (nI mo) ga se)] H := hP
  have hD : va_D A [(ad 0, eH ad (nI nn) (nI mo) ga se)] := hD
  refine lv_astore (lv' := [(4, .ref qx), (0, .ref (ad 0)), (1, .int o), (2, .int p1), (3, .int p2)]) hx hb d_L_set_10 hl (by decide) rfl (fun ls hl => ?_)
  refine lv_iconst (v := 1) hx hb d_L_set_12 (by decide) ?_
  exact W.iret (v := 1) hx hb hr (fun t ht hW => by exact kw_endi hP hD hK hS [0] rfl (by decide) rfl ht hW.alike) hS.2.2 d_L_set_13
set_option maxHeartbeats 4000000 in
set_option maxRecDepth 100000 in
theorem c_L_set_x (l : Launch) (dC : Nat → ClassId) (dI : Nat → Nat → Nat) (ad : Nat → Nat) (ca : Nat → ClassId) (nn : Nat) (mo : Nat) (hmo : mo ≤ 2) (ga : Int32) (se : Int32) (k : Nat) (p1 : Int32) (p2 : Int32) (hk : k < mo) (hbad : ¬ (p1 ||| p2) &&& (mc_all (nI nn) ^^^ (-1)) = 0 ∨ ¬ p1 &&& p2 = 0) (sa : Nat → Nat) (htr : l.stackTraces = false) (sz : Nat) : Met l y_L_set w_L_set ({ frames := 10, cells := 1, slots := 6, locals := 200 }) (kw_T sa (va_A [(ad 0, eH ad (nI nn) (nI mo) ga se)] sz) (kw_P [.ref (ad 0), .int (nI k), .int p1, .int p2] sz (dC, dI) vC [(ad 0, eH ad (nI nn) (nI mo) ga se)] [])) (kw_Qi (dC, dI) vC [] (va_A [(ad 0, eH ad (nI nn) (nI mo) ga se)] sz) [(ad 0, eH ad (nI nn) (nI mo) ga se)] 2) 1 6 (va_A [(ad 0, eH ad (nI nn) (nI mo) ga se)] sz) := by
  refine tw_MetW (cc := b_L_set) (maxL := 5) (ret := (some .int)) (hh := [(0, 7, 10, 19), (0, 7, 14, 13)]) (by decide) rfl ?_
  intro p e s m args below meth c s₁ B hml htab hv
  obtain ⟨⟨rfl, hsz, hP, hK, hD0⟩, hO, hss⟩ := hv
  have hx := B.exec
  have hb := B.bytes
  have hr := B.returns
  have hts := atoms_spec (ws := w_L_set) B.pre
  have hlocks := B.notSynchronized
  have hown : s.vm.findClass R_L = some m.cls := findClass_of_methodNamed B.named
  subst hsz
  have hD := hD0.self (sz := s.heap.size)
  generalize hAe : va_A [(ad 0, eH ad (nI nn) (nI mo) ga se)] s.heap.size = A at hD hO ⊢
  have hA : ∀ q : Nat, s.heap.size ≤ q → A q := fun q h => by rw [← hAe]; exact Or.inr h
  have hS : va_S A s.heap s.heap [] := va_S.rf
  have hP : va_P (dC, dI) vC [(ad 0, eH ad (nI nn) (nI mo) ga se)] s.heap := hP
  have hl := lv_entry ([.ref (ad 0), .int (nI k), .int p1, .int p2]) (n := 5) (Nat.le_of_ble_eq_true rfl)
  rw [lg_entry_eq]
  generalize (lg_sl ([.ref (ad 0), .int (nI k), .int p1, .int p2]) ++ List.replicate (5 - (lg_sl ([.ref (ad 0), .int (nI k), .int p1, .int p2])).length) Slot.unset).toArray = ls at hl ⊢
  have hl : lv_has ls 5 [(0, .ref (ad 0)), (1, .int (nI k)), (2, .int p1), (3, .int p2)] := hl
  refine lv_aload_n hx hb d_L_set_0 rfl (lv_at hl 0 rfl) ?_
  refine lv_iload_n hx hb d_L_set_1 rfl (lv_at hl 1 rfl) ?_
  refine lv_iload_n hx hb d_L_set_2 rfl (lv_at hl 2 rfl) ?_
  refine lv_iload_n hx hb d_L_set_3 rfl (lv_at hl 3 rfl) ?_
  have hPc := hP.sub (ws' := [(ad 0, eH ad (nI nn) (nI mo) ga se)]) [0] rfl
  have hDc := hD.sub (ws' := [(ad 0, eH ad (nI nn) (nI mo) ga se)]) [0] (by decide) rfl
  have hKc := hK.sub (tys' := []) [] rfl
  refine tw_callx (As := [.int (nI k), .int p1, .int p2]) (rest := []) (wr := []) (wf := [(ad 0, eH ad (nI nn) (nI mo) ga se)]) ⟨hx, hb, hml, hown, hts⟩ (c_set_x l dC dI ad ca nn mo hmo ga se k p1 p2 hk hbad sa htr _) (cwV 3 hts (gd_V mw_403 mw_404 mw_405 mw_40 mw_406) rfl rfl rfl (by decide +kernel) ⟨Nat.le_of_ble_eq_true rfl, Nat.le_of_ble_eq_true rfl⟩) (kw_TV (kw_V (q0 := 0) (ci := 3) hKc hPc hDc rfl rfl) hO hS (va_free hD hS hA [0] rfl) hss) rfl hl.1 rfl (lv_room (Nat.le_of_ble_eq_true rfl)) d_L_set_4 ⟨Nat.le_of_ble_eq_true rfl, Nat.le_of_ble_eq_true rfl⟩ hP hD hS hA [0] [] rfl rfl (by decide) (by decide) [⟨0, 7, 10, 19⟩] ⟨0, 7, 14, 13⟩ [] htab (fun z hz => by rw [List.mem_singleton.mp hz]; exact ⟨by decide, _, (hw_of hts mw_402), hss.2.2⟩) (by decide) (by decide) (hw_of hts mw_326) ((hss.2.1 _ (List.mem_of_getElem? (l := nk_L) (i := 0) rfl)).use rfl) rfl (fun qx H locs hP hD hS => ?_)
  have hP : va_P (dC, dI) vC [(ad 0, eH ad (nI nn) (nI mo) ga se)] H := hP
  have hD : va_D A [(ad 0, eH ad (nI nn) (nI mo) ga se)] := hD
  refine lv_astore (lv' := [(4, .ref qx), (0, .ref (ad 0)), (1, .int (nI k)), (2, .int p1), (3, .int p2)]) hx hb d_L_set_14 hl (by decide) rfl (fun ls hl => ?_)
  refine lv_iconst (v := 2) hx hb d_L_set_16 (by decide) ?_
  exact W.iret (v := 2) hx hb hr (fun t ht hW => by exact kw_endi hP hD hK hS [0] rfl (by decide) rfl ht hW.alike) hS.2.2 d_L_set_17
