set_option maxHeartbeats 4000000 in
set_option maxRecDepth 100000 in
theorem c_begin (l : Launch) (dC : Nat → ClassId) (dI : Nat → Nat → Nat) (ad : Nat → Nat) (ca : Nat → ClassId) (ic : Int32) (oc : Int32) (ga : Int32) (se : Int32) (one : Nat → Int32) (zer : Nat → Int32) (i1 : Int32) (o1 : Int32) (hb1 : ¬ i1 < 1) (hb2 : i1 ≤ 4) (hb3 : ¬ o1 < 1) (hb4 : o1 ≤ 2) (sz : Nat) : Met l y_H_begin w_H_begin ({ frames := 3, cells := 0, slots := 0, locals := 80 }) (kw_P [.ref (ad 0), .int i1, .int o1] sz (dC, dI) vC [(ad 0, eH ad ic oc ga se), (ad 4, eI 2 (ca 4) one), (ad 5, eI 2 (ca 5) zer)] [(ca 4, .int), (ca 5, .int)]) (kw_Qv (dC, dI) vC [(ca 4, .int), (ca 5, .int)] (va_A [(ad 0, eH ad ic oc ga se), (ad 4, eI 2 (ca 4) one), (ad 5, eI 2 (ca 5) zer)] sz) [(ad 0, eH ad i1 o1 0 0), (ad 4, eI 2 (ca 4) (fo (mc_setf 0) 2 one)), (ad 5, eI 2 (ca 5) (fo (mc_setf (mc_all i1)) 2 zer))]) 0 0 (va_A [(ad 0, eH ad ic oc ga se), (ad 4, eI 2 (ca 4) one), (ad 5, eI 2 (ca 5) zer)] sz) := by
  refine Met.ofW (cc := b_H_begin) (maxL := 3) (ret := none) (by decide) rfl ?_
  intro p e s m args below meth c s₁ B hml hv
  obtain ⟨rfl, hsz, hP, hK, hD0⟩ := hv
  have hx := B.exec
  have hb := B.bytes
  have hr := B.returns
  have hts := atoms_spec (ws := w_H_begin) B.pre
  have hlocks := B.notSynchronized
  have hown : s.vm.findClass R_H = some m.cls := findClass_of_methodNamed B.named
  subst hsz
  have hD := hD0.self (sz := s.heap.size)
  generalize hAe : va_A [(ad 0, eH ad ic oc ga se), (ad 4, eI 2 (ca 4) one), (ad 5, eI 2 (ca 5) zer)] s.heap.size = A at hD ⊢
  have hA : ∀ q : Nat, s.heap.size ≤ q → A q := fun q h => by rw [← hAe]; exact Or.inr h
  have hS : va_S A s.heap s.heap [] := va_S.rf
  have hP : va_P (dC, dI) vC [(ad 0, eH ad ic oc ga se), (ad 4, eI 2 (ca 4) one), (ad 5, eI 2 (ca 5) zer)] s.heap := hP
  have hl := lv_entry ([.ref (ad 0), .int i1, .int o1]) (n := 3) (Nat.le_of_ble_eq_true rfl)
  rw [lg_entry_eq]
  generalize (lg_sl ([.ref (ad 0), .int i1, .int o1]) ++ List.replicate (3 - (lg_sl ([.ref (ad 0), .int i1, .int o1])).length) Slot.unset).toArray = ls at hl ⊢
  have hl : lv_has ls 3 [(0, .ref (ad 0)), (1, .int i1), (2, .int o1)] := hl
  refine lv_iload_n hx hb d_H_begin_0 rfl (lv_at hl 1 rfl) ?_
  refine lv_iconst (v := 1) hx hb d_H_begin_1 (by decide) ?_
  refine lv_icmp_lt (tgt := 10) hx hb d_H_begin_2 (by decide) (fun c_2 => ?_) (fun c_2 => ?_)
  · exfalso; contradiction
  · refine lv_iload_n hx hb d_H_begin_5 rfl (lv_at hl 1 rfl) ?_
    refine lv_iconst (v := 4) hx hb d_H_begin_6 (by decide) ?_
    refine lv_icmp_le (tgt := 20) hx hb d_H_begin_7 (by decide) (fun c_7 => ?_) (fun c_7 => ?_)
    · refine lv_iload_n hx hb d_H_begin_20 rfl (lv_at hl 2 rfl) ?_
      refine lv_iconst (v := 1) hx hb d_H_begin_21 (by decide) ?_
      refine lv_icmp_lt (tgt := 30) hx hb d_H_begin_22 (by decide) (fun c_22 => ?_) (fun c_22 => ?_)
      · exfalso; contradiction
      · refine lv_iload_n hx hb d_H_begin_25 rfl (lv_at hl 2 rfl) ?_
        refine lv_iconst (v := 2) hx hb d_H_begin_26 (by decide) ?_
        refine lv_icmp_le (tgt := 40) hx hb d_H_begin_27 (by decide) (fun c_27 => ?_) (fun c_27 => ?_)
        · refine lv_aload_n hx hb d_H_begin_40 rfl (lv_at hl 0 rfl) ?_
          refine lv_iload_n hx hb d_H_begin_41 rfl (lv_at hl 1 rfl) ?_
          refine lv_iload_n hx hb d_H_begin_42 rfl (lv_at hl 2 rfl) ?_
          have hPc := hP.sub (ws' := [(ad 0, eH ad ic oc ga se), (ad 4, eI 2 (ca 4) one), (ad 5, eI 2 (ca 5) zer)]) [0, 1, 2] rfl
          have hDc := hD.sub (ws' := [(ad 0, eH ad ic oc ga se), (ad 4, eI 2 (ca 4) one), (ad 5, eI 2 (ca 5) zer)]) [0, 1, 2] (by decide) rfl
          have hKc := hK.sub (tys' := [(ca 4, .int), (ca 5, .int)]) [0, 1] rfl
          refine kw_callv (wr := []) (wf := [(ad 0, eH ad i1 o1 0 0), (ad 4, eI 2 (ca 4) (fo (mc_setf 0) 2 one)), (ad 5, eI 2 (ca 5) (fo (mc_setf (mc_all i1)) 2 zer))]) (va_runV (As := [.int i1, .int o1]) (rest := []) ⟨hx, hb, hml, hown, hts⟩ (c_restart l dC dI ad ca ic oc ga se one zer i1 o1 _) (cwV 2 hts (gd_V mw_167 mw_169 mw_1 mw_40 mw_170) rfl rfl rfl (by decide +kernel) ⟨Nat.le_of_ble_eq_true rfl, Nat.le_of_ble_eq_true rfl⟩) (kw_V (q0 := 0) (ci := 3) hKc hPc hDc rfl rfl) rfl rfl hl.1 rfl (lv_room (Nat.le_of_ble_eq_true rfl)) d_H_begin_43 ⟨Nat.zero_le _, Nat.zero_le _⟩) hP hD hS hA [0, 1, 2] [] rfl rfl (by decide) (by decide) (fun H locs hP hD hS => ?_)
          have hP : va_P (dC, dI) vC [(ad 0, eH ad i1 o1 0 0), (ad 4, eI 2 (ca 4) (fo (mc_setf 0) 2 one)), (ad 5, eI 2 (ca 5) (fo (mc_setf (mc_all i1)) 2 zer))] H := hP
          have hD : va_D A [(ad 0, eH ad i1 o1 0 0), (ad 4, eI 2 (ca 4) (fo (mc_setf 0) 2 one)), (ad 5, eI 2 (ca 5) (fo (mc_setf (mc_all i1)) 2 zer))] := hD
          exact W.vret hx hb hr (fun t ht hW => by exact kw_endv hP hD hK hS [0, 1, 2] rfl (by decide) rfl ht hW.alike) hS.2.2 d_H_begin_46
        · exfalso; contradiction
    · exfalso; contradiction
set_option maxHeartbeats 4000000 in
set_option maxRecDepth 100000 in
theorem c_begin_x (l : Launch) (dC : Nat → ClassId) (dI : Nat → Nat → Nat) (ad : Nat → Nat) (ca : Nat → ClassId) (ic : Int32) (oc : Int32) (ga : Int32) (se : Int32) (i1 : Int32) (o1 : Int32) (hbad : i1 < 1 ∨ ¬ i1 ≤ 4 ∨ o1 < 1 ∨ ¬ o1 ≤ 2) (sa : Nat → Nat) (htr : l.stackTraces = false) (sz : Nat) : tw_Met l y_H_begin w_H_begin ({ frames := 8, cells := 1, slots := 6, locals := 100 }) (kw_T sa (va_A [(ad 0, eH ad ic oc ga se)] sz) (kw_P [.ref (ad 0), .int i1, .int o1] sz (dC, dI) vC [(ad 0, eH ad ic oc ga se)] [])) "java/lang/IllegalArgumentException" (tw_W (dC, dI) vC [] (va_A [(ad 0, eH ad ic oc ga se)] sz) [(ad 0, eH ad ic oc ga se)]) (va_A [(ad 0, eH ad ic oc ga se)] sz) 1 6 (va_A [(ad 0, eH ad ic oc ga se)] sz) := by
  refine tw_ofW (cc := b_H_begin) (maxL := 3) (ret := none) (by decide) rfl ?_
  intro p e s m args below meth c s₁ B hml hnone hv
  obtain ⟨⟨rfl, hsz, hP, hK, hD0⟩, hO, hss⟩ := hv
  have hx := B.exec
  have hb := B.bytes
  have hts := atoms_spec (ws := w_H_begin) B.pre
  have hlocks := B.notSynchronized
  have hown : s.vm.findClass R_H = some m.cls := findClass_of_methodNamed B.named
  subst hsz
  have hD := hD0.self (sz := s.heap.size)
  generalize hAe : va_A [(ad 0, eH ad ic oc ga se)] s.heap.size = A at hD hO ⊢
  have hA : ∀ q : Nat, s.heap.size ≤ q → A q := fun q h => by rw [← hAe]; exact Or.inr h
  have hS : va_S A s.heap s.heap [] := va_S.rf
  have hP : va_P (dC, dI) vC [(ad 0, eH ad ic oc ga se)] s.heap := hP
  have hl := lv_entry ([.ref (ad 0), .int i1, .int o1]) (n := 3) (Nat.le_of_ble_eq_true rfl)
  rw [lg_entry_eq]
  generalize (lg_sl ([.ref (ad 0), .int i1, .int o1]) ++ List.replicate (3 - (lg_sl ([.ref (ad 0), .int i1, .int o1])).length) Slot.unset).toArray = ls at hl ⊢
  have hl : lv_has ls 3 [(0, .ref (ad 0)), (1, .int i1), (2, .int o1)] := hl
  refine lv_iload_n hx hb d_H_begin_0 rfl (lv_at hl 1 rfl) ?_
  refine lv_iconst (v := 1) hx hb d_H_begin_1 (by decide) ?_
  refine lv_icmp_lt (tgt := 10) hx hb d_H_begin_2 (by decide) (fun c_2 => ?_) (fun c_2 => ?_)
  · exact tw_throw (tx := "inputs are 1 to 4") (q := sa 34) hx hb hts hown htr tk_IAE (hss.1 (34, "inputs are 1 to 4") (by decide)) hss.2.1 hO hS (hl.1.trans hml.symm) hnone d_H_begin_10 d_H_begin_13 d_H_begin_14 d_H_begin_16 d_H_begin_19 (Nat.le_of_ble_eq_true rfl) (Nat.le_of_ble_eq_true rfl) (Nat.le_refl _) (Nat.le_refl _) rfl rfl hlocks (tw_B hP hD hK [0] rfl (by decide) rfl)
  · refine lv_iload_n hx hb d_H_begin_5 rfl (lv_at hl 1 rfl) ?_
    refine lv_iconst (v := 4) hx hb d_H_begin_6 (by decide) ?_
    refine lv_icmp_le (tgt := 20) hx hb d_H_begin_7 (by decide) (fun c_7 => ?_) (fun c_7 => ?_)
    · refine lv_iload_n hx hb d_H_begin_20 rfl (lv_at hl 2 rfl) ?_
      refine lv_iconst (v := 1) hx hb d_H_begin_21 (by decide) ?_
      refine lv_icmp_lt (tgt := 30) hx hb d_H_begin_22 (by decide) (fun c_22 => ?_) (fun c_22 => ?_)
      · exact tw_throw (tx := "outputs are 1 to 2") (q := sa 39) hx hb hts hown htr tk_IAE (hss.1 (39, "outputs are 1 to 2") (by decide)) hss.2.1 hO hS (hl.1.trans hml.symm) hnone d_H_begin_30 d_H_begin_33 d_H_begin_34 d_H_begin_36 d_H_begin_39 (Nat.le_of_ble_eq_true rfl) (Nat.le_of_ble_eq_true rfl) (Nat.le_refl _) (Nat.le_refl _) rfl rfl hlocks (tw_B hP hD hK [0] rfl (by decide) rfl)
      · refine lv_iload_n hx hb d_H_begin_25 rfl (lv_at hl 2 rfl) ?_
        refine lv_iconst (v := 2) hx hb d_H_begin_26 (by decide) ?_
        refine lv_icmp_le (tgt := 40) hx hb d_H_begin_27 (by decide) (fun c_27 => ?_) (fun c_27 => ?_)
        · exfalso; rcases hbad with h9 | h9 | h9 | h9 <;> contradiction
        · exact tw_throw (tx := "outputs are 1 to 2") (q := sa 39) hx hb hts hown htr tk_IAE (hss.1 (39, "outputs are 1 to 2") (by decide)) hss.2.1 hO hS (hl.1.trans hml.symm) hnone d_H_begin_30 d_H_begin_33 d_H_begin_34 d_H_begin_36 d_H_begin_39 (Nat.le_of_ble_eq_true rfl) (Nat.le_of_ble_eq_true rfl) (Nat.le_refl _) (Nat.le_refl _) rfl rfl hlocks (tw_B hP hD hK [0] rfl (by decide) rfl)
    · exact tw_throw (tx := "inputs are 1 to 4") (q := sa 34) hx hb hts hown htr tk_IAE (hss.1 (34, "inputs are 1 to 4") (by decide)) hss.2.1 hO hS (hl.1.trans hml.symm) hnone d_H_begin_10 d_H_begin_13 d_H_begin_14 d_H_begin_16 d_H_begin_19 (Nat.le_of_ble_eq_true rfl) (Nat.le_of_ble_eq_true rfl) (Nat.le_refl _) (Nat.le_refl _) rfl rfl hlocks (tw_B hP hD hK [0] rfl (by decide) rfl)
set_option maxHeartbeats 4000000 in
set_option maxRecDepth 100000 in
theorem c_set (l : Launch) (dC : Nat → ClassId) (dI : Nat → Nat → Nat) (ad : Nat → Nat) (ca : Nat → ClassId) (nn : Nat) (mo : Nat) (hmo : mo ≤ 2) (ga : Int32) (se : Int32) (one : Nat → Int32) (zer : Nat → Int32) (k : Nat) (p1 : Int32) (p2 : Int32) (hk : k < mo) (hz1 : (p1 ||| p2) &&& (mc_all (nI nn) ^^^ (-1)) = 0) (hz2 : p1 &&& p2 = 0) (sz : Nat) : Met l y_H_set w_H_set ({ frames := 3, cells := 0, slots := 0, locals := 80 }) (kw_P [.ref (ad 0), .int (nI k), .int p1, .int p2] sz (dC, dI) vC [(ad 0, eH ad (nI nn) (nI mo) ga se), (ad 4, eI 2 (ca 4) one), (ad 5, eI 2 (ca 5) zer)] [(ca 4, .int), (ca 5, .int)]) (kw_Qv (dC, dI) vC [(ca 4, .int), (ca 5, .int)] (va_A [(ad 0, eH ad (nI nn) (nI mo) ga se), (ad 4, eI 2 (ca 4) one), (ad 5, eI 2 (ca 5) zer)] sz) [(ad 0, eH ad (nI nn) (nI mo) 0 0), (ad 4, eI 2 (ca 4) (upd one k p1)), (ad 5, eI 2 (ca 5) (upd zer k (mc_all (nI nn) &&& ((p1 ||| p2) ^^^ (-1)))))]) 0 0 (va_A [(ad 0, eH ad (nI nn) (nI mo) ga se), (ad 4, eI 2 (ca 4) one), (ad 5, eI 2 (ca 5) zer)] sz) := by
  refine Met.ofW (cc := b_H_set) (maxL := 5) (ret := none) (by decide) rfl ?_
  intro p e s m args below meth c s₁ B hml hv
  obtain ⟨rfl, hsz, hP, hK, hD0⟩ := hv
  have hx := B.exec
  have hb := B.bytes
  have hr := B.returns
  have hts := atoms_spec (ws := w_H_set) B.pre
  have hlocks := B.notSynchronized
  have hown : s.vm.findClass R_H = some m.cls := findClass_of_methodNamed B.named
  subst hsz
  have hD := hD0.self (sz := s.heap.size)
  generalize hAe : va_A [(ad 0, eH ad (nI nn) (nI mo) ga se), (ad 4, eI 2 (ca 4) one), (ad 5, eI 2 (ca 5) zer)] s.heap.size = A at hD ⊢
  have hA : ∀ q : Nat, s.heap.size ≤ q → A q := fun q h => by rw [← hAe]; exact Or.inr h
  have hS : va_S A s.heap s.heap [] := va_S.rf
  have hP : va_P (dC, dI) vC [(ad 0, eH ad (nI nn) (nI mo) ga se), (ad 4, eI 2 (ca 4) one), (ad 5, eI 2 (ca 5) zer)] s.heap := hP
  have hl := lv_entry ([.ref (ad 0), .int (nI k), .int p1, .int p2]) (n := 5) (Nat.le_of_ble_eq_true rfl)
  rw [lg_entry_eq]
  generalize (lg_sl ([.ref (ad 0), .int (nI k), .int p1, .int p2]) ++ List.replicate (5 - (lg_sl ([.ref (ad 0), .int (nI k), .int p1, .int p2])).length) Slot.unset).toArray = ls at hl ⊢
  have hl : lv_has ls 5 [(0, .ref (ad 0)), (1, .int (nI k)), (2, .int p1), (3, .int p2)] := hl
  refine lv_aload_n hx hb d_H_set_0 rfl (lv_at hl 0 rfl) ?_
  refine lv_iload_n hx hb d_H_set_1 rfl (lv_at hl 1 rfl) ?_
  have hPc := hP.sub (ws' := [(ad 0, eH ad (nI nn) (nI mo) ga se)]) [0] rfl
  have hKc := hK.sub (tys' := []) [] rfl
  refine vp_callSi (W.runV (As := [.int (nI k)]) (rest := []) ⟨hx, hb, hml, hown, hts⟩ (c_isOutput l dC dI ad ca (nI nn) (nI mo) ga se (nI k)) (cwV 1 hts (gd_V mw_407 mw_409 mw_20 mw_40 mw_410) rfl rfl rfl (by decide +kernel) ⟨Nat.le_of_ble_eq_true rfl, Nat.le_of_ble_eq_true rfl⟩) (kr_V (q0 := 0) (ci := 3) hKc hPc rfl rfl) rfl rfl hl.1 rfl (lv_room (Nat.le_of_ble_eq_true rfl)) d_H_set_2 ⟨Nat.zero_le _, Nat.zero_le _⟩) (fun r hq => ?_)
  subst hq
  refine k_bne (b := (!decide ((nI k) < 0) && !decide ((nI mo) ≤ (nI k)))) (tgt := 18) hx hb d_H_set_5 (by decide) (fun c_5 => ?_) (fun c_5 => ?_)
  · refine lv_aload_n hx hb d_H_set_18 rfl (lv_at hl 0 rfl) ?_
    have hPc := hP.sub (ws' := [(ad 0, eH ad (nI nn) (nI mo) ga se)]) [0] rfl
    have hKc := hK.sub (tys' := []) [] rfl
    refine vp_callSi (W.runV (As := []) (rest := []) ⟨hx, hb, hml, hown, hts⟩ (c_allInputs l dC dI ad ca (nI nn) (nI mo) ga se) (cwV 0 hts (gd_V mw_171 mw_173 mw_2 mw_40 mw_174) rfl rfl rfl (by decide +kernel) ⟨Nat.le_of_ble_eq_true rfl, Nat.le_of_ble_eq_true rfl⟩) (kr_V (q0 := 0) (ci := 3) hKc hPc rfl rfl) rfl rfl hl.1 rfl (lv_room (Nat.le_of_ble_eq_true rfl)) d_H_set_19 ⟨Nat.zero_le _, Nat.zero_le _⟩) (fun r hq => ?_)
    subst hq
    refine lv_istore (lv' := [(4, .int (mc_all (nI nn))), (0, .ref (ad 0)), (1, .int (nI k)), (2, .int p1), (3, .int p2)]) hx hb d_H_set_22 hl (by decide) rfl (fun ls hl => ?_)
    refine lv_iload_n hx hb d_H_set_24 rfl (lv_at hl 3 rfl) ?_
    refine lv_iload_n hx hb d_H_set_25 rfl (lv_at hl 4 rfl) ?_
    refine lv_ior hx hb d_H_set_26 ?_
    refine lv_iload hx hb d_H_set_27 (lv_at hl 0 rfl) ?_
    refine lv_iconst (v := (-1)) hx hb d_H_set_29 (by decide) ?_
    refine lv_ixor hx hb d_H_set_30 ?_
    refine lv_iand hx hb d_H_set_31 ?_
    refine lv_if_eq (tgt := 45) hx hb d_H_set_32 (by decide) (fun c_32 => ?_) (fun c_32 => ?_)
    · refine lv_iload_n hx hb d_H_set_45 rfl (lv_at hl 3 rfl) ?_
      refine lv_iload_n hx hb d_H_set_46 rfl (lv_at hl 4 rfl) ?_
      refine lv_iand hx hb d_H_set_47 ?_
      refine lv_if_eq (tgt := 61) hx hb d_H_set_48 (by decide) (fun c_48 => ?_) (fun c_48 => ?_)
      · refine lv_aload_n hx hb d_H_set_61 rfl (lv_at hl 1 rfl) ?_
        refine va_get (D := (dC, dI)) (ci := 3) (v := .ref (ad 4)) (C := R_H) (T := F_H) (N := 8) hx hb hts (hin_of in_H) hown hK hP 0 rfl rfl 0 (by decide) (hw_of hts mw_179) (fun _ h9 => h9) rfl d_H_set_62 ?_
        refine lv_iload_n hx hb d_H_set_65 rfl (lv_at hl 2 rfl) ?_
        refine lv_iload_n hx hb d_H_set_66 rfl (lv_at hl 3 rfl) ?_
        refine k_iast (k := k) hx hb hK hP hD hS 1 0 rfl rfl rfl (by omega) (by decide) d_H_set_67 (fun H locs hP hD hS => ?_)
        have hP : va_P (dC, dI) vC [(ad 0, eH ad (nI nn) (nI mo) ga se), (ad 4, eI 2 (ca 4) (upd one k p1)), (ad 5, eI 2 (ca 5) zer)] H := hP
        have hD : va_D A [(ad 0, eH ad (nI nn) (nI mo) ga se), (ad 4, eI 2 (ca 4) (upd one k p1)), (ad 5, eI 2 (ca 5) zer)] := hD
        refine lv_aload_n hx hb d_H_set_68 rfl (lv_at hl 1 rfl) ?_
        refine va_get (D := (dC, dI)) (ci := 3) (v := .ref (ad 5)) (C := R_H) (T := F_H) (N := 8) hx hb hts (hin_of in_H) hown hK hP 0 rfl rfl 1 (by decide) (hw_of hts mw_180) (fun _ h9 => h9) rfl d_H_set_69 ?_
        refine lv_iload_n hx hb d_H_set_72 rfl (lv_at hl 2 rfl) ?_
        refine lv_iload hx hb d_H_set_73 (lv_at hl 0 rfl) ?_
        refine lv_iload_n hx hb d_H_set_75 rfl (lv_at hl 3 rfl) ?_
        refine lv_iload_n hx hb d_H_set_76 rfl (lv_at hl 4 rfl) ?_
        refine lv_ior hx hb d_H_set_77 ?_
        refine lv_iconst (v := (-1)) hx hb d_H_set_78 (by decide) ?_
        refine lv_ixor hx hb d_H_set_79 ?_
        refine lv_iand hx hb d_H_set_80 ?_
        refine k_iast (k := k) hx hb hK hP hD hS 2 1 rfl rfl rfl (by omega) (by decide) d_H_set_81 (fun H locs hP hD hS => ?_)
        have hP : va_P (dC, dI) vC [(ad 0, eH ad (nI nn) (nI mo) ga se), (ad 4, eI 2 (ca 4) (upd one k p1)), (ad 5, eI 2 (ca 5) (upd zer k ((mc_all (nI nn)) &&& ((p1 ||| p2) ^^^ (-1)))))] H := hP
        have hD : va_D A [(ad 0, eH ad (nI nn) (nI mo) ga se), (ad 4, eI 2 (ca 4) (upd one k p1)), (ad 5, eI 2 (ca 5) (upd zer k ((mc_all (nI nn)) &&& ((p1 ||| p2) ^^^ (-1)))))] := hD
        refine lv_aload_n hx hb d_H_set_82 rfl (lv_at hl 1 rfl) ?_
        have hPc := hP.sub (ws' := [(ad 0, eH ad (nI nn) (nI mo) ga se)]) [0] rfl
        have hDc := hD.sub (ws' := [(ad 0, eH ad (nI nn) (nI mo) ga se)]) [0] (by decide) rfl
        have hKc := hK.sub (tys' := []) [] rfl
        refine kw_callv (wr := [(ad 4, eI 2 (ca 4) (upd one k p1)), (ad 5, eI 2 (ca 5) (upd zer k ((mc_all (nI nn)) &&& ((p1 ||| p2) ^^^ (-1)))))]) (wf := [(ad 0, eH ad (nI nn) (nI mo) 0 0)]) (va_runV (As := []) (rest := []) ⟨hx, hb, hml, hown, hts⟩ (c_forget l dC dI ad ca (nI nn) (nI mo) ga se _) (cwV 0 hts (gd_V mw_175 mw_177 mw_3 mw_40 mw_178) rfl rfl rfl (by decide +kernel) ⟨Nat.le_of_ble_eq_true rfl, Nat.le_of_ble_eq_true rfl⟩) (kw_V (q0 := 0) (ci := 3) hKc hPc hDc rfl rfl) rfl rfl hl.1 rfl (lv_room (Nat.le_of_ble_eq_true rfl)) d_H_set_83 ⟨Nat.zero_le _, Nat.zero_le _⟩) hP hD hS hA [0] [1, 2] rfl rfl (by decide) (by decide) (fun H locs hP hD hS => ?_)
        have hP : va_P (dC, dI) vC [(ad 4, eI 2 (ca 4) (upd one k p1)), (ad 5, eI 2 (ca 5) (upd zer k ((mc_all (nI nn)) &&& ((p1 ||| p2) ^^^ (-1))))), (ad 0, eH ad (nI nn) (nI mo) 0 0)] H := hP
        have hD : va_D A [(ad 4, eI 2 (ca 4) (upd one k p1)), (ad 5, eI 2 (ca 5) (upd zer k ((mc_all (nI nn)) &&& ((p1 ||| p2) ^^^ (-1))))), (ad 0, eH ad (nI nn) (nI mo) 0 0)] := hD
        have e_1 : upd zer k (mc_all (nI nn) &&& ((p1 ||| p2) ^^^ (-1))) = upd zer k ((mc_all (nI nn)) &&& ((p1 ||| p2) ^^^ (-1))) := rfl
        exact W.vret hx hb hr (fun t ht hW => by (try rw [e_1]); exact kw_endv hP hD hK hS [2, 0, 1] rfl (by decide) rfl ht hW.alike) hS.2.2 d_H_set_86
      · exfalso; contradiction
    · exfalso; contradiction
  · exfalso; rw [io_t hk hmo] at c_5; cases c_5
set_option maxHeartbeats 4000000 in
set_option maxRecDepth 100000 in
theorem c_set_o (l : Launch) (dC : Nat → ClassId) (dI : Nat → Nat → Nat) (ad : Nat → Nat) (ca : Nat → ClassId) (nn : Nat) (mo : Nat) (hmo : mo ≤ 2) (ga : Int32) (se : Int32) (o : Int32) (p1 : Int32) (p2 : Int32) (hbad : (!decide (o < 0) && !decide (nI mo ≤ o)) = false) (sa : Nat → Nat) (htr : l.stackTraces = false) (sz : Nat) : tw_Met l y_H_set w_H_set ({ frames := 8, cells := 1, slots := 6, locals := 100 }) (kw_T sa (va_A [(ad 0, eH ad (nI nn) (nI mo) ga se)] sz) (kw_P [.ref (ad 0), .int o, .int p1, .int p2] sz (dC, dI) vC [(ad 0, eH ad (nI nn) (nI mo) ga se)] [])) "java/lang/IndexOutOfBoundsException" (tw_W (dC, dI) vC [] (va_A [(ad 0, eH ad (nI nn) (nI mo) ga se)] sz) [(ad 0, eH ad (nI nn) (nI mo) ga se)]) (va_A [(ad 0, eH ad (nI nn) (nI mo) ga se)] sz) 1 6 (va_A [(ad 0, eH ad (nI nn) (nI mo) ga se)] sz) := by
  refine tw_ofW (cc := b_H_set) (maxL := 5) (ret := none) (by decide) rfl ?_
  intro p e s m args below meth c s₁ B hml hnone hv
  obtain ⟨⟨rfl, hsz, hP, hK, hD0⟩, hO, hss⟩ := hv
  have hx := B.exec
  have hb := B.bytes
  have hts := atoms_spec (ws := w_H_set) B.pre
  have hlocks := B.notSynchronized
  have hown : s.vm.findClass R_H = some m.cls := findClass_of_methodNamed B.named
  subst hsz
  have hD := hD0.self (sz := s.heap.size)
  generalize hAe : va_A [(ad 0, eH ad (nI nn) (nI mo) ga se)] s.heap.size = A at hD hO ⊢
  have hA : ∀ q : Nat, s.heap.size ≤ q → A q := fun q h => by rw [← hAe]; exact Or.inr h
  have hS : va_S A s.heap s.heap [] := va_S.rf
  have hP : va_P (dC, dI) vC [(ad 0, eH ad (nI nn) (nI mo) ga se)] s.heap := hP
  have hl := lv_entry ([.ref (ad 0), .int o, .int p1, .int p2]) (n := 5) (Nat.le_of_ble_eq_true rfl)
  rw [lg_entry_eq]
  generalize (lg_sl ([.ref (ad 0), .int o, .int p1, .int p2]) ++ List.replicate (5 - (lg_sl ([.ref (ad 0), .int o, .int p1, .int p2])).length) Slot.unset).toArray = ls at hl ⊢
  have hl : lv_has ls 5 [(0, .ref (ad 0)), (1, .int o), (2, .int p1), (3, .int p2)] := hl
  refine lv_aload_n hx hb d_H_set_0 rfl (lv_at hl 0 rfl) ?_
  refine lv_iload_n hx hb d_H_set_1 rfl (lv_at hl 1 rfl) ?_
  have hPc := hP.sub (ws' := [(ad 0, eH ad (nI nn) (nI mo) ga se)]) [0] rfl
  have hKc := hK.sub (tys' := []) [] rfl
  refine vp_callSi (W.runV (As := [.int o]) (rest := []) ⟨hx, hb, hml, hown, hts⟩ (c_isOutput l dC dI ad ca (nI nn) (nI mo) ga se o) (cwV 1 hts (gd_V mw_407 mw_409 mw_20 mw_40 mw_410) rfl rfl rfl (by decide +kernel) ⟨Nat.le_of_ble_eq_true rfl, Nat.le_of_ble_eq_true rfl⟩) (kr_V (q0 := 0) (ci := 3) hKc hPc rfl rfl) rfl rfl hl.1 rfl (lv_room (Nat.le_of_ble_eq_true rfl)) d_H_set_2 ⟨Nat.zero_le _, Nat.zero_le _⟩) (fun r hq => ?_)
  subst hq
  refine k_bne (b := (!decide (o < 0) && !decide ((nI mo) ≤ o))) (tgt := 18) hx hb d_H_set_5 (by decide) (fun c_5 => ?_) (fun c_5 => ?_)
  · exfalso; rw [hbad] at c_5; cases c_5
  · exact tw_throw (tx := "no such output") (q := sa 47) hx hb hts hown htr tk_IOB (hss.1 (47, "no such output") (by decide)) hss.2.1 hO hS (hl.1.trans hml.symm) hnone d_H_set_8 d_H_set_11 d_H_set_12 d_H_set_14 d_H_set_17 (Nat.le_of_ble_eq_true rfl) (Nat.le_of_ble_eq_true rfl) (Nat.le_refl _) (Nat.le_refl _) rfl rfl hlocks (tw_B hP hD hK [0] rfl (by decide) rfl)
set_option maxHeartbeats 4000000 in
set_option maxRecDepth 100000 in
theorem c_set_x (l : Launch) (dC : Nat → ClassId) (dI : Nat → Nat → Nat) (ad : Nat → Nat) (ca : Nat → ClassId) (nn : Nat) (mo : Nat) (hmo : mo ≤ 2) (ga : Int32) (se : Int32) (k : Nat) (p1 : Int32) (p2 : Int32) (hk : k < mo) (hbad : ¬ (p1 ||| p2) &&& (mc_all (nI nn) ^^^ (-1)) = 0 ∨ ¬ p1 &&& p2 = 0) (sa : Nat → Nat) (htr : l.stackTraces = false) (sz : Nat) : tw_Met l y_H_set w_H_set ({ frames := 8, cells := 1, slots := 6, locals := 100 }) (kw_T sa (va_A [(ad 0, eH ad (nI nn) (nI mo) ga se)] sz) (kw_P [.ref (ad 0), .int (nI k), .int p1, .int p2] sz (dC, dI) vC [(ad 0, eH ad (nI nn) (nI mo) ga se)] [])) "java/lang/IllegalArgumentException" (tw_W (dC, dI) vC [] (va_A [(ad 0, eH ad (nI nn) (nI mo) ga se)] sz) [(ad 0, eH ad (nI nn) (nI mo) ga se)]) (va_A [(ad 0, eH ad (nI nn) (nI mo) ga se)] sz) 1 6 (va_A [(ad 0, eH ad (nI nn) (nI mo) ga se)] sz) := by
  refine tw_ofW (cc := b_H_set) (maxL := 5) (ret := none) (by decide) rfl ?_
  intro p e s m args below meth c s₁ B hml hnone hv
  obtain ⟨⟨rfl, hsz, hP, hK, hD0⟩, hO, hss⟩ := hv
  have hx := B.exec
  have hb := B.bytes
  have hts := atoms_spec (ws := w_H_set) B.pre
  have hlocks := B.notSynchronized
  have hown : s.vm.findClass R_H = some m.cls := findClass_of_methodNamed B.named
  subst hsz
  have hD := hD0.self (sz := s.heap.size)
  generalize hAe : va_A [(ad 0, eH ad (nI nn) (nI mo) ga se)] s.heap.size = A at hD hO ⊢
  have hA : ∀ q : Nat, s.heap.size ≤ q → A q := fun q h => by rw [← hAe]; exact Or.inr h
  have hS : va_S A s.heap s.heap [] := va_S.rf
  have hP : va_P (dC, dI) vC [(ad 0, eH ad (nI nn) (nI mo) ga se)] s.heap := hP
  have hl := lv_entry ([.ref (ad 0), .int (nI k), .int p1, .int p2]) (n := 5) (Nat.le_of_ble_eq_true rfl)
  rw [lg_entry_eq]
  generalize (lg_sl ([.ref (ad 0), .int (nI k), .int p1, .int p2]) ++ List.replicate (5 - (lg_sl ([.ref (ad 0), .int (nI k), .int p1, .int p2])).length) Slot.unset).toArray = ls at hl ⊢
  have hl : lv_has ls 5 [(0, .ref (ad 0)), (1, .int (nI k)), (2, .int p1), (3, .int p2)] := hl
  refine lv_aload_n hx hb d_H_set_0 rfl (lv_at hl 0 rfl) ?_
  refine lv_iload_n hx hb d_H_set_1 rfl (lv_at hl 1 rfl) ?_
  have hPc := hP.sub (ws' := [(ad 0, eH ad (nI nn) (nI mo) ga se)]) [0] rfl
  have hKc := hK.sub (tys' := []) [] rfl
  refine vp_callSi (W.runV (As := [.int (nI k)]) (rest := []) ⟨hx, hb, hml, hown, hts⟩ (c_isOutput l dC dI ad ca (nI nn) (nI mo) ga se (nI k)) (cwV 1 hts (gd_V mw_407 mw_409 mw_20 mw_40 mw_410) rfl rfl rfl (by decide +kernel) ⟨Nat.le_of_ble_eq_true rfl, Nat.le_of_ble_eq_true rfl⟩) (kr_V (q0 := 0) (ci := 3) hKc hPc rfl rfl) rfl rfl hl.1 rfl (lv_room (Nat.le_of_ble_eq_true rfl)) d_H_set_2 ⟨Nat.zero_le _, Nat.zero_le _⟩) (fun r hq => ?_)
  subst hq
  refine k_bne (b := (!decide ((nI k) < 0) && !decide ((nI mo) ≤ (nI k)))) (tgt := 18) hx hb d_H_set_5 (by decide) (fun c_5 => ?_) (fun c_5 => ?_)
  · refine lv_aload_n hx hb d_H_set_18 rfl (lv_at hl 0 rfl) ?_
    have hPc := hP.sub (ws' := [(ad 0, eH ad (nI nn) (nI mo) ga se)]) [0] rfl
    have hKc := hK.sub (tys' := []) [] rfl
    refine vp_callSi (W.runV (As := []) (rest := []) ⟨hx, hb, hml, hown, hts⟩ (c_allInputs l dC dI ad ca (nI nn) (nI mo) ga se) (cwV 0 hts (gd_V mw_171 mw_173 mw_2 mw_40 mw_174) rfl rfl rfl (by decide +kernel) ⟨Nat.le_of_ble_eq_true rfl, Nat.le_of_ble_eq_true rfl⟩) (kr_V (q0 := 0) (ci := 3) hKc hPc rfl rfl) rfl rfl hl.1 rfl (lv_room (Nat.le_of_ble_eq_true rfl)) d_H_set_19 ⟨Nat.zero_le _, Nat.zero_le _⟩) (fun r hq => ?_)
    subst hq
    refine lv_istore (lv' := [(4, .int (mc_all (nI nn))), (0, .ref (ad 0)), (1, .int (nI k)), (2, .int p1), (3, .int p2)]) hx hb d_H_set_22 hl (by decide) rfl (fun ls hl => ?_)
    refine lv_iload_n hx hb d_H_set_24 rfl (lv_at hl 3 rfl) ?_
    refine lv_iload_n hx hb d_H_set_25 rfl (lv_at hl 4 rfl) ?_
    refine lv_ior hx hb d_H_set_26 ?_
    refine lv_iload hx hb d_H_set_27 (lv_at hl 0 rfl) ?_
    refine lv_iconst (v := (-1)) hx hb d_H_set_29 (by decide) ?_
    refine lv_ixor hx hb d_H_set_30 ?_
    refine lv_iand hx hb d_H_set_31 ?_
    refine lv_if_eq (tgt := 45) hx hb d_H_set_32 (by decide) (fun c_32 => ?_) (fun c_32 => ?_)
    · refine lv_iload_n hx hb d_H_set_45 rfl (lv_at hl 3 rfl) ?_
      refine lv_iload_n hx hb d_H_set_46 rfl (lv_at hl 4 rfl) ?_
      refine lv_iand hx hb d_H_set_47 ?_
      refine lv_if_eq (tgt := 61) hx hb d_H_set_48 (by decide) (fun c_48 => ?_) (fun c_48 => ?_)
      · exfalso; rcases hbad with h9 | h9 <;> contradiction
      · exact tw_throw (tx := "the sets have inputs in common") (q := sa 56) hx hb hts hown htr tk_IAE (hss.1 (56, "the sets have inputs in common") (by decide)) hss.2.1 hO hS (hl.1.trans hml.symm) hnone d_H_set_51 d_H_set_54 d_H_set_55 d_H_set_57 d_H_set_60 (Nat.le_of_ble_eq_true rfl) (Nat.le_of_ble_eq_true rfl) (Nat.le_refl _) (Nat.le_refl _) rfl rfl hlocks (tw_B hP hD hK [0] rfl (by decide) rfl)
    · exact tw_throw (tx := "a set has inputs that there aren't") (q := sa 54) hx hb hts hown htr tk_IAE (hss.1 (54, "a set has inputs that there aren't") (by decide)) hss.2.1 hO hS (hl.1.trans hml.symm) hnone d_H_set_35 d_H_set_38 d_H_set_39 d_H_set_41 d_H_set_44 (Nat.le_of_ble_eq_true rfl) (Nat.le_of_ble_eq_true rfl) (Nat.le_refl _) (Nat.le_refl _) rfl rfl hlocks (tw_B hP hD hK [0] rfl (by decide) rfl)
  · exfalso; rw [io_t hk hmo] at c_5; cases c_5
