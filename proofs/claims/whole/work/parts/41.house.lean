set_option maxHeartbeats 4000000 in
set_option maxRecDepth 100000 in
theorem c_forget (l : Launch) (dC : Nat → ClassId) (dI : Nat → Nat → Nat) (ad : Nat → Nat) (ca : Nat → ClassId) (ic : Int32) (oc : Int32) (ga : Int32) (se : Int32) (sz : Nat) : Met l y_H_forget w_H_forget ({ frames := 0, cells := 0, slots := 0, locals := 0 }) (kw_P [.ref (ad 0)] sz (dC, dI) vC [(ad 0, eH ad ic oc ga se)] []) (kw_Qv (dC, dI) vC [] (va_A [(ad 0, eH ad ic oc ga se)] sz) [(ad 0, eH ad ic oc 0 0)]) 0 0 (va_A [(ad 0, eH ad ic oc ga se)] sz) := by
  refine Met.ofW (cc := b_H_forget) (maxL := 1) (ret := none) (by decide) rfl ?_
  intro p e s m args below meth c s₁ B hml hv
  obtain ⟨rfl, hsz, hP, hK, hD0⟩ := hv
  have hx := B.exec
  have hb := B.bytes
  have hr := B.returns
  have hts := atoms_spec (ws := w_H_forget) B.pre
  have hlocks := B.notSynchronized
  have hown : s.vm.findClass R_H = some m.cls := findClass_of_methodNamed B.named
  subst hsz
  have hD := hD0.self (sz := s.heap.size)
  generalize hAe : va_A [(ad 0, eH ad ic oc ga se)] s.heap.size = A at hD ⊢
  have hA : ∀ q : Nat, s.heap.size ≤ q → A q := fun q h => by rw [← hAe]; exact Or.inr h
  have hS : va_S A s.heap s.heap [] := va_S.rf
  have hP : va_P (dC, dI) vC [(ad 0, eH ad ic oc ga se)] s.heap := hP
  have hl := lv_entry ([.ref (ad 0)]) (n := 1) (Nat.le_of_ble_eq_true rfl)
  rw [lg_entry_eq]
  generalize (lg_sl ([.ref (ad 0)]) ++ List.replicate (1 - (lg_sl ([.ref (ad 0)])).length) Slot.unset).toArray = ls at hl ⊢
  have hl : lv_has ls 1 [(0, .ref (ad 0))] := hl
  refine lv_aload_n hx hb d_H_forget_0 rfl (lv_at hl 0 rfl) ?_
  refine lv_iconst (v := 0) hx hb d_H_forget_1 (by decide) ?_
  refine va_put (D := (dC, dI)) (ci := 3) (v := .int 0) (ty := .boolean) (C := R_H) (T := F_H) (N := 8) hx hb hts (hin_of in_H) ft_H tk_H nm_H hown hK hP hD hS 0 rfl rfl 6 (by decide) (hw_of hts mw_185) (fun _ h9 => h9) rfl (by decide +kernel) rfl rfl (Nat.le_of_ble_eq_true rfl) d_H_forget_2 (fun H locs hP hD hS => ?_)
  have hP : va_P (dC, dI) vC [(ad 0, eH ad ic oc 0 se)] H := hP
  have hD : va_D A [(ad 0, eH ad ic oc 0 se)] := hD
  refine lv_aload_n hx hb d_H_forget_5 rfl (lv_at hl 0 rfl) ?_
  refine lv_iconst (v := 0) hx hb d_H_forget_6 (by decide) ?_
  refine va_put (D := (dC, dI)) (ci := 3) (v := .int 0) (ty := .boolean) (C := R_H) (T := F_H) (N := 8) hx hb hts (hin_of in_H) ft_H tk_H nm_H hown hK hP hD hS 0 rfl rfl 7 (by decide) (hw_of hts mw_186) (fun _ h9 => h9) rfl (by decide +kernel) rfl rfl (Nat.le_of_ble_eq_true rfl) d_H_forget_7 (fun H locs hP hD hS => ?_)
  have hP : va_P (dC, dI) vC [(ad 0, eH ad ic oc 0 0)] H := hP
  have hD : va_D A [(ad 0, eH ad ic oc 0 0)] := hD
  exact W.vret hx hb hr (fun t ht hW => by exact kw_endv hP hD hK hS [0] rfl (by decide) rfl ht hW.alike) hS.2.2 d_H_forget_10
set_option maxHeartbeats 4000000 in
set_option maxRecDepth 100000 in
theorem c_isOutput (l : Launch) (dC : Nat → ClassId) (dI : Nat → Nat → Nat) (ad : Nat → Nat) (ca : Nat → ClassId) (ic : Int32) (oc : Int32) (ga : Int32) (se : Int32) (o : Int32) : Met l y_H_isOutput w_H_isOutput ({ frames := 0, cells := 0, slots := 0, locals := 0 }) (kr_P [.ref (ad 0), .int o] (dC, dI) vC [(ad 0, eH ad ic oc ga se)] []) (vp_Si (fun r => r = if (!decide (o < 0) && !decide (oc ≤ o)) = true then 1 else 0)) 0 0 (fun _ => False) := by
  refine Met.ofW (cc := b_H_isOutput) (maxL := 2) (ret := (some .boolean)) (by decide) rfl ?_
  intro p e s m args below meth c s₁ B hml hv
  obtain ⟨rfl, hP, hK⟩ := hv
  have hx := B.exec
  have hb := B.bytes
  have hr := B.returns
  have hts := atoms_spec (ws := w_H_isOutput) B.pre
  have hlocks := B.notSynchronized
  have hown : s.vm.findClass R_H = some m.cls := findClass_of_methodNamed B.named
  have hl := lv_entry ([.ref (ad 0), .int o]) (n := 2) (Nat.le_of_ble_eq_true rfl)
  rw [lg_entry_eq]
  generalize (lg_sl ([.ref (ad 0), .int o]) ++ List.replicate (2 - (lg_sl ([.ref (ad 0), .int o])).length) Slot.unset).toArray = ls at hl ⊢
  have hl : lv_has ls 2 [(0, .ref (ad 0)), (1, .int o)] := hl
  refine lv_iload_n hx hb d_H_isOutput_0 rfl (lv_at hl 1 rfl) ?_
  refine lv_if_lt (tgt := 16) hx hb d_H_isOutput_1 (by decide) (fun c_1 => ?_) (fun c_1 => ?_)
  · refine lv_iconst (v := 0) hx hb d_H_isOutput_16 (by decide) ?_
    exact W.zret (v := 0) hx hb hr rfl (fun t ht hW => ⟨0, rfl, by (first | rw [decide_eq_true c_1] | rw [decide_eq_false c_1] | rw [decide_eq_false (Nat.not_lt.mpr c_1)] | rw [decide_eq_false (Nat.not_le.mpr c_1)] | rw [c_1] | skip); rfl, ht⟩) (fun q h => by cases h) d_H_isOutput_17
  · refine lv_iload_n hx hb d_H_isOutput_4 rfl (lv_at hl 1 rfl) ?_
    refine lv_aload_n hx hb d_H_isOutput_5 rfl (lv_at hl 0 rfl) ?_
    refine va_get (D := (dC, dI)) (ci := 3) (v := .int oc) (C := R_H) (T := F_H) (N := 8) hx hb hts (hin_of in_H) hown hK hP 0 rfl rfl 5 (by decide) (hw_of hts mw_184) (fun _ h9 => h9) rfl d_H_isOutput_6 ?_
    refine lv_icmp_ge (tgt := 16) hx hb d_H_isOutput_9 (by decide) (fun c_9 => ?_) (fun c_9 => ?_)
    · refine lv_iconst (v := 0) hx hb d_H_isOutput_16 (by decide) ?_
      exact W.zret (v := 0) hx hb hr rfl (fun t ht hW => ⟨0, rfl, by (first | rw [decide_eq_true c_1] | rw [decide_eq_false c_1] | rw [decide_eq_false (Nat.not_lt.mpr c_1)] | rw [decide_eq_false (Nat.not_le.mpr c_1)] | rw [c_1] | skip); (first | rw [decide_eq_true c_9] | rw [decide_eq_false c_9] | rw [decide_eq_false (Nat.not_lt.mpr c_9)] | rw [decide_eq_false (Nat.not_le.mpr c_9)] | rw [c_9] | skip); rfl, ht⟩) (fun q h => by cases h) d_H_isOutput_17
    · refine lv_iconst (v := 1) hx hb d_H_isOutput_12 (by decide) ?_
      refine lv_goto (tgt := 17) hx hb d_H_isOutput_13 (by decide) ?_
      exact W.zret (v := 1) hx hb hr rfl (fun t ht hW => ⟨1, rfl, by (first | rw [decide_eq_true c_1] | rw [decide_eq_false c_1] | rw [decide_eq_false (Nat.not_lt.mpr c_1)] | rw [decide_eq_false (Nat.not_le.mpr c_1)] | rw [c_1] | skip); (first | rw [decide_eq_true c_9] | rw [decide_eq_false c_9] | rw [decide_eq_false (Nat.not_lt.mpr c_9)] | rw [decide_eq_false (Nat.not_le.mpr c_9)] | rw [c_9] | skip); rfl, ht⟩) (fun q h => by cases h) d_H_isOutput_17
set_option maxHeartbeats 4000000 in
set_option maxRecDepth 100000 in
theorem c_allInputs (l : Launch) (dC : Nat → ClassId) (dI : Nat → Nat → Nat) (ad : Nat → Nat) (ca : Nat → ClassId) (ic : Int32) (oc : Int32) (ga : Int32) (se : Int32) : Met l y_H_allInputs w_H_allInputs ({ frames := 0, cells := 0, slots := 0, locals := 0 }) (kr_P [.ref (ad 0)] (dC, dI) vC [(ad 0, eH ad ic oc ga se)] []) (vp_Si (fun r => r = mc_all ic)) 0 0 (fun _ => False) := by
  refine Met.ofW (cc := b_H_allInputs) (maxL := 1) (ret := (some .int)) (by decide) rfl ?_
  intro p e s m args below meth c s₁ B hml hv
  obtain ⟨rfl, hP, hK⟩ := hv
  have hx := B.exec
  have hb := B.bytes
  have hr := B.returns
  have hts := atoms_spec (ws := w_H_allInputs) B.pre
  have hlocks := B.notSynchronized
  have hown : s.vm.findClass R_H = some m.cls := findClass_of_methodNamed B.named
  have hl := lv_entry ([.ref (ad 0)]) (n := 1) (Nat.le_of_ble_eq_true rfl)
  rw [lg_entry_eq]
  generalize (lg_sl ([.ref (ad 0)]) ++ List.replicate (1 - (lg_sl ([.ref (ad 0)])).length) Slot.unset).toArray = ls at hl ⊢
  have hl : lv_has ls 1 [(0, .ref (ad 0))] := hl
  refine lv_iconst (v := 1) hx hb d_H_allInputs_0 (by decide) ?_
  refine lv_iconst (v := 1) hx hb d_H_allInputs_1 (by decide) ?_
  refine lv_aload_n hx hb d_H_allInputs_2 rfl (lv_at hl 0 rfl) ?_
  refine va_get (D := (dC, dI)) (ci := 3) (v := .int ic) (C := R_H) (T := F_H) (N := 8) hx hb hts (hin_of in_H) hown hK hP 0 rfl rfl 4 (by decide) (hw_of hts mw_183) (fun _ h9 => h9) rfl d_H_allInputs_3 ?_
  refine lv_ishl hx hb d_H_allInputs_6 ?_
  refine lv_ishl hx hb d_H_allInputs_7 ?_
  refine lv_iconst (v := 1) hx hb d_H_allInputs_8 (by decide) ?_
  refine lv_isub hx hb d_H_allInputs_9 ?_
  exact W.iret (v := ((1 : Int32) <<< (((1 : Int32) <<< (ic &&& 31)) &&& 31)) - 1) hx hb hr (fun t ht hW => ⟨((1 : Int32) <<< (((1 : Int32) <<< (ic &&& 31)) &&& 31)) - 1, rfl, rfl, ht⟩) (fun q h => by cases h) d_H_allInputs_10
set_option maxHeartbeats 4000000 in
set_option maxRecDepth 100000 in
theorem c_restart (l : Launch) (dC : Nat → ClassId) (dI : Nat → Nat → Nat) (ad : Nat → Nat) (ca : Nat → ClassId) (ic : Int32) (oc : Int32) (ga : Int32) (se : Int32) (one : Nat → Int32) (zer : Nat → Int32) (i1 : Int32) (o1 : Int32) (sz : Nat) : Met l y_H_restart w_H_restart ({ frames := 1, cells := 0, slots := 0, locals := 20 }) (kw_P [.ref (ad 0), .int i1, .int o1] sz (dC, dI) vC [(ad 0, eH ad ic oc ga se), (ad 4, eI 2 (ca 4) one), (ad 5, eI 2 (ca 5) zer)] [(ca 4, .int), (ca 5, .int)]) (kw_Qv (dC, dI) vC [(ca 4, .int), (ca 5, .int)] (va_A [(ad 0, eH ad ic oc ga se), (ad 4, eI 2 (ca 4) one), (ad 5, eI 2 (ca 5) zer)] sz) [(ad 0, eH ad i1 o1 0 0), (ad 4, eI 2 (ca 4) (fo (mc_setf 0) 2 one)), (ad 5, eI 2 (ca 5) (fo (mc_setf (mc_all i1)) 2 zer))]) 0 0 (va_A [(ad 0, eH ad ic oc ga se), (ad 4, eI 2 (ca 4) one), (ad 5, eI 2 (ca 5) zer)] sz) := by
  refine Met.ofW (cc := b_H_restart) (maxL := 4) (ret := none) (by decide) rfl ?_
  intro p e s m args below meth c s₁ B hml hv
  obtain ⟨rfl, hsz, hP, hK, hD0⟩ := hv
  have hx := B.exec
  have hb := B.bytes
  have hr := B.returns
  have hts := atoms_spec (ws := w_H_restart) B.pre
  have hlocks := B.notSynchronized
  have hown : s.vm.findClass R_H = some m.cls := findClass_of_methodNamed B.named
  subst hsz
  have hD := hD0.self (sz := s.heap.size)
  generalize hAe : va_A [(ad 0, eH ad ic oc ga se), (ad 4, eI 2 (ca 4) one), (ad 5, eI 2 (ca 5) zer)] s.heap.size = A at hD ⊢
  have hA : ∀ q : Nat, s.heap.size ≤ q → A q := fun q h => by rw [← hAe]; exact Or.inr h
  have hS : va_S A s.heap s.heap [] := va_S.rf
  have hP : va_P (dC, dI) vC [(ad 0, eH ad ic oc ga se), (ad 4, eI 2 (ca 4) one), (ad 5, eI 2 (ca 5) zer)] s.heap := hP
  have hl := lv_entry ([.ref (ad 0), .int i1, .int o1]) (n := 4) (Nat.le_of_ble_eq_true rfl)
  rw [lg_entry_eq]
  generalize (lg_sl ([.ref (ad 0), .int i1, .int o1]) ++ List.replicate (4 - (lg_sl ([.ref (ad 0), .int i1, .int o1])).length) Slot.unset).toArray = ls at hl ⊢
  have hl : lv_has ls 4 [(0, .ref (ad 0)), (1, .int i1), (2, .int o1)] := hl
  refine lv_aload_n hx hb d_H_restart_0 rfl (lv_at hl 0 rfl) ?_
  refine lv_iload_n hx hb d_H_restart_1 rfl (lv_at hl 1 rfl) ?_
  refine va_put (D := (dC, dI)) (ci := 3) (v := .int i1) (ty := .int) (C := R_H) (T := F_H) (N := 8) hx hb hts (hin_of in_H) ft_H tk_H nm_H hown hK hP hD hS 0 rfl rfl 4 (by decide) (hw_of hts mw_183) (fun _ h9 => h9) rfl (by decide +kernel) rfl rfl (Nat.le_of_ble_eq_true rfl) d_H_restart_2 (fun H locs hP hD hS => ?_)
  have hP : va_P (dC, dI) vC [(ad 0, eH ad i1 oc ga se), (ad 4, eI 2 (ca 4) one), (ad 5, eI 2 (ca 5) zer)] H := hP
  have hD : va_D A [(ad 0, eH ad i1 oc ga se), (ad 4, eI 2 (ca 4) one), (ad 5, eI 2 (ca 5) zer)] := hD
  refine lv_aload_n hx hb d_H_restart_5 rfl (lv_at hl 0 rfl) ?_
  refine lv_iload_n hx hb d_H_restart_6 rfl (lv_at hl 2 rfl) ?_
  refine va_put (D := (dC, dI)) (ci := 3) (v := .int o1) (ty := .int) (C := R_H) (T := F_H) (N := 8) hx hb hts (hin_of in_H) ft_H tk_H nm_H hown hK hP hD hS 0 rfl rfl 5 (by decide) (hw_of hts mw_184) (fun _ h9 => h9) rfl (by decide +kernel) rfl rfl (Nat.le_of_ble_eq_true rfl) d_H_restart_7 (fun H locs hP hD hS => ?_)
  have hP : va_P (dC, dI) vC [(ad 0, eH ad i1 o1 ga se), (ad 4, eI 2 (ca 4) one), (ad 5, eI 2 (ca 5) zer)] H := hP
  have hD : va_D A [(ad 0, eH ad i1 o1 ga se), (ad 4, eI 2 (ca 4) one), (ad 5, eI 2 (ca 5) zer)] := hD
  refine lv_iconst (v := 0) hx hb d_H_restart_10 (by decide) ?_
  refine lv_istore_n (lv' := [(3, .int 0), (0, .ref (ad 0)), (1, .int i1), (2, .int o1)]) hx hb d_H_restart_11 rfl hl (by decide) rfl (fun ls hl => ?_)
  refine k_loopH (fun iv H locs ls => lv_has ls 4 [(0, .ref (ad 0)), (1, .int i1), (2, .int o1), (3, .int (nI iv))] ∧ va_P (dC, dI) vC [(ad 0, eH ad i1 o1 ga se), (ad 4, eI 2 (ca 4) (fo (mc_setf 0) iv one)), (ad 5, eI 2 (ca 5) (fo (mc_setf (mc_all i1)) iv zer))] H ∧ va_D A [(ad 0, eH ad i1 o1 ga se), (ad 4, eI 2 (ca 4) (fo (mc_setf 0) iv one)), (ad 5, eI 2 (ca 5) (fo (mc_setf (mc_all i1)) iv zer))] ∧ va_S A s.heap H locs ∧ True) 2 ?_ 0 _ _ _ (Nat.zero_le _) ?_
  · intro iv H locs ls hiiv hI ihiv
    obtain ⟨hl, hP, hD, hS, -⟩ := hI
    refine lv_iload_n hx hb d_H_restart_12 rfl (lv_at hl 3 rfl) ?_
    refine lv_iconst (v := 2) hx hb d_H_restart_13 (by decide) ?_
    refine k_ge (a := iv) (b := 2) (tgt := 40) hx hb rfl rfl (by omega) (by omega) d_H_restart_14 (by decide) (fun c_14 => ?_) (fun c_14 => ?_)
    · obtain rfl : 2 = iv := by omega
      refine lv_aload_n hx hb d_H_restart_40 rfl (lv_at hl 0 rfl) ?_
      have hPc := hP.sub (ws' := [(ad 0, eH ad i1 o1 ga se)]) [0] rfl
      have hDc := hD.sub (ws' := [(ad 0, eH ad i1 o1 ga se)]) [0] (by decide) rfl
      have hKc := hK.sub (tys' := []) [] rfl
      refine kw_callv (wr := [(ad 4, eI 2 (ca 4) (fo (mc_setf 0) 2 one)), (ad 5, eI 2 (ca 5) (fo (mc_setf (mc_all i1)) 2 zer))]) (wf := [(ad 0, eH ad i1 o1 0 0)]) (va_runV (As := []) (rest := []) ⟨hx, hb, hml, hown, hts⟩ (c_forget l dC dI ad ca i1 o1 ga se _) (cwV 0 hts (gd_V mw_175 mw_177 mw_3 mw_40 mw_178) rfl rfl rfl (by decide +kernel) ⟨Nat.le_of_ble_eq_true rfl, Nat.le_of_ble_eq_true rfl⟩) (kw_V (q0 := 0) (ci := 3) hKc hPc hDc rfl rfl) rfl rfl hl.1 rfl (lv_room (Nat.le_of_ble_eq_true rfl)) d_H_restart_41 ⟨Nat.zero_le _, Nat.zero_le _⟩) hP hD hS hA [0] [1, 2] rfl rfl (by decide) (by decide) (fun H locs hP hD hS => ?_)
      have hP : va_P (dC, dI) vC [(ad 4, eI 2 (ca 4) (fo (mc_setf 0) 2 one)), (ad 5, eI 2 (ca 5) (fo (mc_setf (mc_all i1)) 2 zer)), (ad 0, eH ad i1 o1 0 0)] H := hP
      have hD : va_D A [(ad 4, eI 2 (ca 4) (fo (mc_setf 0) 2 one)), (ad 5, eI 2 (ca 5) (fo (mc_setf (mc_all i1)) 2 zer)), (ad 0, eH ad i1 o1 0 0)] := hD
      exact W.vret hx hb hr (fun t ht hW => by exact kw_endv hP hD hK hS [2, 0, 1] rfl (by decide) rfl ht hW.alike) hS.2.2 d_H_restart_44
    · refine lv_aload_n hx hb d_H_restart_17 rfl (lv_at hl 0 rfl) ?_
      refine va_get (D := (dC, dI)) (ci := 3) (v := .ref (ad 4)) (C := R_H) (T := F_H) (N := 8) hx hb hts (hin_of in_H) hown hK hP 0 rfl rfl 0 (by decide) (hw_of hts mw_179) (fun _ h9 => h9) rfl d_H_restart_18 ?_
      refine lv_iload_n hx hb d_H_restart_21 rfl (lv_at hl 3 rfl) ?_
      refine lv_iconst (v := 0) hx hb d_H_restart_22 (by decide) ?_
      refine k_iast (k := iv) hx hb hK hP hD hS 1 0 rfl rfl rfl (by omega) (by decide) d_H_restart_23 (fun H locs hP hD hS => ?_)
      have hP : va_P (dC, dI) vC [(ad 0, eH ad i1 o1 ga se), (ad 4, eI 2 (ca 4) (upd (fo (mc_setf 0) iv one) iv 0)), (ad 5, eI 2 (ca 5) (fo (mc_setf (mc_all i1)) iv zer))] H := hP
      have hD : va_D A [(ad 0, eH ad i1 o1 ga se), (ad 4, eI 2 (ca 4) (upd (fo (mc_setf 0) iv one) iv 0)), (ad 5, eI 2 (ca 5) (fo (mc_setf (mc_all i1)) iv zer))] := hD
      refine lv_aload_n hx hb d_H_restart_24 rfl (lv_at hl 0 rfl) ?_
      refine va_get (D := (dC, dI)) (ci := 3) (v := .ref (ad 5)) (C := R_H) (T := F_H) (N := 8) hx hb hts (hin_of in_H) hown hK hP 0 rfl rfl 1 (by decide) (hw_of hts mw_180) (fun _ h9 => h9) rfl d_H_restart_25 ?_
      refine lv_iload_n hx hb d_H_restart_28 rfl (lv_at hl 3 rfl) ?_
      refine lv_aload_n hx hb d_H_restart_29 rfl (lv_at hl 0 rfl) ?_
      have hPc := hP.sub (ws' := [(ad 0, eH ad i1 o1 ga se)]) [0] rfl
      have hKc := hK.sub (tys' := []) [] rfl
      refine vp_callSi (W.runV (As := []) (rest := [.int (nI iv), .ref (ad 5)]) ⟨hx, hb, hml, hown, hts⟩ (c_allInputs l dC dI ad ca i1 o1 ga se) (cwV 0 hts (gd_V mw_171 mw_173 mw_2 mw_40 mw_174) rfl rfl rfl (by decide +kernel) ⟨Nat.le_of_ble_eq_true rfl, Nat.le_of_ble_eq_true rfl⟩) (kr_V (q0 := 0) (ci := 3) hKc hPc rfl rfl) rfl rfl hl.1 rfl (lv_room (Nat.le_of_ble_eq_true rfl)) d_H_restart_30 ⟨Nat.zero_le _, Nat.zero_le _⟩) (fun r hq => ?_)
      subst hq
      refine k_iast (k := iv) hx hb hK hP hD hS 2 1 rfl rfl rfl (by omega) (by decide) d_H_restart_33 (fun H locs hP hD hS => ?_)
      have hP : va_P (dC, dI) vC [(ad 0, eH ad i1 o1 ga se), (ad 4, eI 2 (ca 4) (upd (fo (mc_setf 0) iv one) iv 0)), (ad 5, eI 2 (ca 5) (upd (fo (mc_setf (mc_all i1)) iv zer) iv (mc_all i1)))] H := hP
      have hD : va_D A [(ad 0, eH ad i1 o1 ga se), (ad 4, eI 2 (ca 4) (upd (fo (mc_setf 0) iv one) iv 0)), (ad 5, eI 2 (ca 5) (upd (fo (mc_setf (mc_all i1)) iv zer) iv (mc_all i1)))] := hD
      refine lv_iinc (v := nI (iv + 1)) (lv' := [(3, .int (nI (iv + 1))), (0, .ref (ad 0)), (1, .int i1), (2, .int o1)]) hx hb d_H_restart_34 hl (k := 3) rfl (k_inc _) (by decide) rfl (fun ls hl => ?_)
      refine lv_goto (tgt := 12) hx hb d_H_restart_37 (by decide) ?_
      refine ihiv _ _ _ (by omega) ?_
      have e_1 : fo (mc_setf 0) (iv + 1) one = upd (fo (mc_setf 0) iv one) iv 0 := rfl
      have e_2 : fo (mc_setf (mc_all i1)) (iv + 1) zer = upd (fo (mc_setf (mc_all i1)) iv zer) iv (mc_all i1) := rfl
      exact ⟨by (try rw [e_1]); (try rw [e_2]); exact lv_sub hl [1, 2, 3, 0] rfl, by (try rw [e_1]); (try rw [e_2]); exact hP, by (try rw [e_1]); (try rw [e_2]); exact hD, hS, trivial⟩
  · have hdone : True := trivial
    have e_3 : nI 0 = 0 := rfl
    have e_4 : fo (mc_setf 0) 0 one = one := rfl
    have e_5 : fo (mc_setf (mc_all i1)) 0 zer = zer := rfl
    exact ⟨by (try rw [e_3]); (try rw [e_4]); (try rw [e_5]); exact lv_sub hl [1, 2, 3, 0] rfl, by (try rw [e_3]); (try rw [e_4]); (try rw [e_5]); exact hP, by (try rw [e_3]); (try rw [e_4]); (try rw [e_5]); exact hD, hS, trivial⟩
