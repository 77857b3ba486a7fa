set_option maxHeartbeats 4000000 in
set_option maxRecDepth 100000 in
theorem c_P_init (l : Launch) (dC : Nat → ClassId) (dI : Nat → Nat → Nat) (b : Nat) (tP tI : Nat) (sz : Nat) : Met l y_P_init w_P_init ({ frames := 4, cells := 2, slots := 162, locals := 120 }) (kw_PX tP tI [.ref b] sz (dC, dI) vC [(b, .inr (1, [.null, .null]))] []) (kw_Qn (dC, dI) vC (fun u => [(u.2 15, .int), (u.2 16, .int)]) (va_A [(b, .inr (1, [.null, .null]))] sz) (fun u => u.1 3 = b) (fun u => [(u.1 3, eP u.1), (u.1 15, eI 81 (u.2 15) prI), (u.1 16, eI 81 (u.2 16) prS)])) 2 162 (va_A [(b, .inr (1, [.null, .null]))] sz) := by
  refine Met.ofW (cc := b_P_init) (maxL := 2) (ret := none) (by decide) rfl ?_
  intro p e s m args below meth c s₁ B hml hv
  obtain ⟨⟨rfl, hsz, hP, hK, hD0⟩, hX⟩ := hv
  have hx := B.exec
  have hb := B.bytes
  have hr := B.returns
  have hts := atoms_spec (ws := w_P_init) B.pre
  have hlocks := B.notSynchronized
  have hown : s.vm.findClass R_P = some m.cls := findClass_of_methodNamed B.named
  have hin : meth.name = "<init>" := (name_of_methodNamed B.named B.method).1
  subst hsz
  have hD := hD0.self (sz := s.heap.size)
  generalize hAe : va_A [(b, .inr (1, [.null, .null]))] s.heap.size = A at hD hX ⊢
  have hA : ∀ q : Nat, s.heap.size ≤ q → A q := fun q h => by rw [← hAe]; exact Or.inr h
  clear hAe
  have hS : va_S A s.heap s.heap [] := va_S.rf
  have hP : va_P (dC, dI) vC [(b, .inr (1, [.null, .null]))] s.heap := hP
  have hl := lv_entry ([.ref b]) (n := 2) (Nat.le_of_ble_eq_true rfl)
  rw [lg_entry_eq]
  generalize (lg_sl ([.ref b]) ++ List.replicate (2 - (lg_sl ([.ref b])).length) Slot.unset).toArray = ls at hl ⊢
  have hl : lv_has ls 2 [(0, .ref b)] := hl
  refine lv_aload_n hx hb d_P_init_0 rfl (lv_at hl 0 rfl) ?_
  refine W.objInit hx hb hown (hw_of hts mw_77) (hw_of hts mw_58) (hw_of hts mw_59) rfl (by rw [hml]; exact hl.1) rfl d_P_init_1 (Nat.le_of_ble_eq_true rfl) (Nat.le_of_ble_eq_true rfl) ?_
  refine W.eq (g2 := F0 m 4 ls []) rfl ?_
  refine lv_aload_n hx hb d_P_init_4 rfl (lv_at hl 0 rfl) ?_
  refine lv_bipush (v := 81) hx hb d_P_init_5 (by decide) ?_
  refine va_newa (atype := .int) (ty := .int) (N' := 81) (a0 := ((81 : Nat), .inl (fun _ => 0))) hx hb (hw_of hts mw_94) rfl hK hP hD hS hA (nw_i 81) (by decide +kernel) (by decide +kernel) (by decide +kernel) (by show _ ≤ 2; omega) (by show _ ≤ 162; omega) d_P_init_7 (fun q7 c7 H hK hP hD hS => ?_)
  have hK : va_K (dC, dI) vC [(c7, .int)] s := hK
  have hP : va_P (dC, dI) vC [(b, .inr (1, [.null, .null])), (q7, eI 81 c7 (fun _ => 0))] H := hP
  have hD : va_D A [(b, .inr (1, [.null, .null])), (q7, eI 81 c7 (fun _ => 0))] := hD
  refine va_putF (D := (dC, dI)) (ci := 1) (v := .ref q7) (ty := .array .int) (C := R_P) (T := F_P) (N := 2) hx hb hts (hin_of in_P) ft_P tk_P nm_P hown hK hP hD hS 0 rfl rfl 0 (by decide) (hw_of hts mw_85) (fun _ h9 => h9) rfl hin rfl (by decide +kernel) rfl rfl (Nat.le_of_ble_eq_true rfl) d_P_init_9 (fun H locs hP hD hS => ?_)
  have hP : va_P (dC, dI) vC [(b, .inr (1, [.ref q7, .null])), (q7, eI 81 c7 (fun _ => 0))] H := hP
  have hD : va_D A [(b, .inr (1, [.ref q7, .null])), (q7, eI 81 c7 (fun _ => 0))] := hD
  refine lv_aload_n hx hb d_P_init_12 rfl (lv_at hl 0 rfl) ?_
  refine lv_bipush (v := 81) hx hb d_P_init_13 (by decide) ?_
  refine va_newa (atype := .int) (ty := .int) (N' := 81) (a0 := ((81 : Nat), .inl (fun _ => 0))) hx hb (hw_of hts mw_94) rfl hK hP hD hS hA (nw_i 81) (by decide +kernel) (by decide +kernel) (by decide +kernel) (by show _ ≤ 2; omega) (by show _ ≤ 162; omega) d_P_init_15 (fun q15 c15 H hK hP hD hS => ?_)
  have hK : va_K (dC, dI) vC [(c7, .int), (c15, .int)] s := hK
  have hP : va_P (dC, dI) vC [(b, .inr (1, [.ref q7, .null])), (q7, eI 81 c7 (fun _ => 0)), (q15, eI 81 c15 (fun _ => 0))] H := hP
  have hD : va_D A [(b, .inr (1, [.ref q7, .null])), (q7, eI 81 c7 (fun _ => 0)), (q15, eI 81 c15 (fun _ => 0))] := hD
  refine va_putF (D := (dC, dI)) (ci := 1) (v := .ref q15) (ty := .array .int) (C := R_P) (T := F_P) (N := 2) hx hb hts (hin_of in_P) ft_P tk_P nm_P hown hK hP hD hS 0 rfl rfl 1 (by decide) (hw_of hts mw_87) (fun _ h9 => h9) rfl hin rfl (by decide +kernel) rfl rfl (Nat.le_of_ble_eq_true rfl) d_P_init_17 (fun H locs hP hD hS => ?_)
  have hP : va_P (dC, dI) vC [(b, .inr (1, [.ref q7, .ref q15])), (q7, eI 81 c7 (fun _ => 0)), (q15, eI 81 c15 (fun _ => 0))] H := hP
  have hD : va_D A [(b, .inr (1, [.ref q7, .ref q15])), (q7, eI 81 c7 (fun _ => 0)), (q15, eI 81 c15 (fun _ => 0))] := hD
  obtain ⟨ad, e_3, e_15, e_16⟩ : ∃ ad : Nat → Nat, ad 3 = b ∧ ad 15 = q7 ∧ ad 16 = q15 := ⟨fun k => if k = 3 then b else if k = 15 then q7 else q15, rfl, rfl, rfl⟩
  obtain ⟨ca, f_15, f_16⟩ : ∃ ca : Nat → ClassId, ca 15 = c7 ∧ ca 16 = c15 := ⟨fun k => if k = 15 then c7 else c15, rfl, rfl⟩
  subst e_3
  subst e_15
  subst e_16
  subst f_15
  subst f_16
  have hK0 : va_K (dC, dI) vC [(ca 15, .int), (ca 16, .int)] s := hK
  have hK := hK0.sub (tys' := [(ca 15, .int), (ca 16, .int)]) [0, 1] rfl
  have hP : va_P (dC, dI) vC [(ad 3, eP ad), (ad 15, eI 81 (ca 15) (fun _ => 0)), (ad 16, eI 81 (ca 16) (fun _ => 0))] H := hP
  have hD : va_D A [(ad 3, eP ad), (ad 15, eI 81 (ca 15) (fun _ => 0)), (ad 16, eI 81 (ca 16) (fun _ => 0))] := hD
  refine lv_iconst (v := 0) hx hb d_P_init_20 (by decide) ?_
  refine lv_istore_n (lv' := [(1, .int 0), (0, .ref (ad 3))]) hx hb d_P_init_21 rfl hl (by decide) rfl (fun ls hl => ?_)
  refine k_loopH (fun iv H locs ls => lv_has ls 2 [(0, .ref (ad 3)), (1, .int (nI iv))] ∧ va_P (dC, dI) vC [(ad 3, eP ad), (ad 15, eI 81 (ca 15) (fo prIf iv (fun _ => 0))), (ad 16, eI 81 (ca 16) (fo prSf iv (fun _ => 0)))] H ∧ va_D A [(ad 3, eP ad), (ad 15, eI 81 (ca 15) (fo prIf iv (fun _ => 0))), (ad 16, eI 81 (ca 16) (fo prSf iv (fun _ => 0)))] ∧ va_S A s.heap H locs ∧ True) 81 ?_ 0 _ _ _ (Nat.zero_le _) ?_
  · intro iv H locs ls hiiv hI ihiv
    obtain ⟨hl, hP, hD, hS, -⟩ := hI
    refine lv_iload_n hx hb d_P_init_22 rfl (lv_at hl 1 rfl) ?_
    refine lv_bipush (v := 81) hx hb d_P_init_23 (by decide) ?_
    refine k_ge (a := iv) (b := 81) (tgt := 39) hx hb rfl rfl (by omega) (by omega) d_P_init_25 (by decide) (fun c_25 => ?_) (fun c_25 => ?_)
    · obtain rfl : 81 = iv := by omega
      refine W.widen (k := 2) (n := 162) (by omega) (by omega) ?_
      exact W.vret hx hb hr (fun t ht hW => kw_endn (tysc := fun u => [(u.2 15, .int), (u.2 16, .int)]) (post := fun u => u.1 3 = ad 3) (w := fun u => [(u.1 3, eP u.1), (u.1 15, eI 81 (u.2 15) prI), (u.1 16, eI 81 (u.2 16) prS)]) (ad, ca) rfl hP hD (hK0.sub (tys' := [(ca 15, .int), (ca 16, .int)]) [0, 1] rfl) hS [0, 1, 2] rfl (by decide) rfl ht hW.alike) hS.2.2 d_P_init_39
    · refine lv_aload_n hx hb d_P_init_28 rfl (lv_at hl 0 rfl) ?_
      refine lv_iload_n hx hb d_P_init_29 rfl (lv_at hl 1 rfl) ?_
      have hPc := hP.sub (ws' := [(ad 3, eP ad), (ad 15, eI 81 (ca 15) (fo prIf iv (fun _ => 0))), (ad 16, eI 81 (ca 16) (fo prSf iv (fun _ => 0)))]) [0, 1, 2] rfl
      have hDc := hD.sub (ws' := [(ad 3, eP ad), (ad 15, eI 81 (ca 15) (fo prIf iv (fun _ => 0))), (ad 16, eI 81 (ca 16) (fo prSf iv (fun _ => 0)))]) [0, 1, 2] (by decide) rfl
      have hKc := hK.sub (tys' := [(ca 15, .int), (ca 16, .int)]) [0, 1] rfl
      refine kw_callv (wr := []) (wf := [(ad 3, eP ad), (ad 15, eI 81 (ca 15) (upd (fo prIf iv (fun _ => 0)) iv (nI (fo (mc_dsf iv) 4 (65535, 0)).1))), (ad 16, eI 81 (ca 16) (upd (fo prSf iv (fun _ => 0)) iv (nI (fo (mc_dsf iv) 4 (65535, 0)).2)))]) (va_runV (As := [.int (nI iv)]) (rest := []) ⟨hx, hb, hml, hown, hts⟩ (c_describe l dC dI ad ca tP tI (fo prIf iv (fun _ => 0)) (fo prSf iv (fun _ => 0)) iv (by omega) _) (cwV 1 hts (gd_V mw_78 mw_80 mw_0 mw_43 mw_81) rfl rfl rfl (by decide +kernel) ⟨Nat.le_of_ble_eq_true rfl, Nat.le_of_ble_eq_true rfl⟩) (kw_VX (q0 := 0) (ci := 1) hKc hPc hDc rfl rfl hX hS (va_free hD hS hA [0, 1, 2] rfl)) rfl rfl hl.1 rfl (lv_room (Nat.le_of_ble_eq_true rfl)) d_P_init_30 ⟨Nat.le_of_ble_eq_true rfl, Nat.le_of_ble_eq_true rfl⟩) hP hD hS hA [0, 1, 2] [] rfl rfl (by decide) (by decide) (fun H locs hP hD hS => ?_)
      have hP : va_P (dC, dI) vC [(ad 3, eP ad), (ad 15, eI 81 (ca 15) (upd (fo prIf iv (fun _ => 0)) iv (nI (fo (mc_dsf iv) 4 (65535, 0)).1))), (ad 16, eI 81 (ca 16) (upd (fo prSf iv (fun _ => 0)) iv (nI (fo (mc_dsf iv) 4 (65535, 0)).2)))] H := hP
      have hD : va_D A [(ad 3, eP ad), (ad 15, eI 81 (ca 15) (upd (fo prIf iv (fun _ => 0)) iv (nI (fo (mc_dsf iv) 4 (65535, 0)).1))), (ad 16, eI 81 (ca 16) (upd (fo prSf iv (fun _ => 0)) iv (nI (fo (mc_dsf iv) 4 (65535, 0)).2)))] := hD
      refine lv_iinc (v := nI (iv + 1)) (lv' := [(1, .int (nI (iv + 1))), (0, .ref (ad 3))]) hx hb d_P_init_33 hl (k := 1) rfl (k_inc _) (by decide) rfl (fun ls hl => ?_)
      refine lv_goto (tgt := 22) hx hb d_P_init_36 (by decide) ?_
      refine ihiv _ _ _ (by omega) ?_
      have e_1 : fo prIf (iv + 1) (fun _ => 0) = upd (fo prIf iv (fun _ => 0)) iv (nI (fo (mc_dsf iv) 4 (65535, 0)).1) := rfl
      have e_2 : fo prSf (iv + 1) (fun _ => 0) = upd (fo prSf iv (fun _ => 0)) iv (nI (fo (mc_dsf iv) 4 (65535, 0)).2) := rfl
      exact ⟨by (try rw [e_1]); (try rw [e_2]); exact lv_sub hl [1, 0] rfl, by (try rw [e_1]); (try rw [e_2]); exact hP, by (try rw [e_1]); (try rw [e_2]); exact hD, hS, trivial⟩
  · have hdone : True := trivial
    have e_3 : nI 0 = 0 := rfl
    have e_4 : fo prIf 0 (fun _ => 0) = fun _ => 0 := rfl
    have e_5 : fo prSf 0 (fun _ => 0) = fun _ => 0 := rfl
    exact ⟨by (try rw [e_3]); (try rw [e_4]); (try rw [e_5]); exact lv_sub hl [1, 0] rfl, by (try rw [e_3]); (try rw [e_4]); (try rw [e_5]); exact hP, by (try rw [e_3]); (try rw [e_4]); (try rw [e_5]); exact hD, hS, trivial⟩
set_option maxHeartbeats 4000000 in
set_option maxRecDepth 100000 in
theorem c_T_init (l : Launch) (dC : Nat → ClassId) (dI : Nat → Nat → Nat) (b : Nat) (tP tI : Nat) (sz : Nat) : Met l y_T_init w_T_init ({ frames := 6, cells := 9, slots := 650, locals := 200 }) (kw_PX tP tI [.ref b] sz (dC, dI) vC [(b, .inr (0, [.null, .null, .null, .null, .null, .int 0, .long 0, .long 0, .null, .null]))] []) (kw_Qn (dC, dI) vC (fun u => [(u.2 9, .int), (u.2 10, .int), (u.2 11, .int), (u.2 12, .int), (u.2 13, .long), (u.2 14, .int), (u.2 15, .int), (u.2 16, .int)]) (va_A [(b, .inr (0, [.null, .null, .null, .null, .null, .int 0, .long 0, .long 0, .null, .null]))] sz) (fun u => u.1 2 = b) (fun u => [(u.1 2, eT u.1 0 0 0), (u.1 3, eP u.1), (u.1 9, eI 81 (u.2 9) (fun _ => 0)), (u.1 10, eI 81 (u.2 10) (fun _ => 0)), (u.1 11, eI 81 (u.2 11) (fun _ => 0)), (u.1 12, eI 81 (u.2 12) (fun _ => 0)), (u.1 13, eL 81 (u.2 13) (fun _ => 0)), (u.1 14, eI 81 (u.2 14) (fun _ => 0)), (u.1 15, eI 81 (u.2 15) prI), (u.1 16, eI 81 (u.2 16) prS)])) 9 650 (va_A [(b, .inr (0, [.null, .null, .null, .null, .null, .int 0, .long 0, .long 0, .null, .null]))] sz) := by
  refine Met.ofW (cc := b_T_init) (maxL := 1) (ret := none) (by decide) rfl ?_
  intro p e s m args below meth c s₁ B hml hv
  obtain ⟨⟨rfl, hsz, hP, hK, hD0⟩, hX⟩ := hv
  have hx := B.exec
  have hb := B.bytes
  have hr := B.returns
  have hts := atoms_spec (ws := w_T_init) B.pre
  have hlocks := B.notSynchronized
  have hown : s.vm.findClass R_T = some m.cls := findClass_of_methodNamed B.named
  have hin : meth.name = "<init>" := (name_of_methodNamed B.named B.method).1
  subst hsz
  have hD := hD0.self (sz := s.heap.size)
  generalize hAe : va_A [(b, .inr (0, [.null, .null, .null, .null, .null, .int 0, .long 0, .long 0, .null, .null]))] s.heap.size = A at hD hX ⊢
  have hA : ∀ q : Nat, s.heap.size ≤ q → A q := fun q h => by rw [← hAe]; exact Or.inr h
  clear hAe
  have hS : va_S A s.heap s.heap [] := va_S.rf
  have hP : va_P (dC, dI) vC [(b, .inr (0, [.null, .null, .null, .null, .null, .int 0, .long 0, .long 0, .null, .null]))] s.heap := hP
  have hl := lv_entry ([.ref b]) (n := 1) (Nat.le_of_ble_eq_true rfl)
  rw [lg_entry_eq]
  generalize (lg_sl ([.ref b]) ++ List.replicate (1 - (lg_sl ([.ref b])).length) Slot.unset).toArray = ls at hl ⊢
  have hl : lv_has ls 1 [(0, .ref b)] := hl
  refine lv_aload_n hx hb d_T_init_0 rfl (lv_at hl 0 rfl) ?_
  refine W.objInit hx hb hown (hw_of hts mw_71) (hw_of hts mw_58) (hw_of hts mw_59) rfl (by rw [hml]; exact hl.1) rfl d_T_init_1 (Nat.le_of_ble_eq_true rfl) (Nat.le_of_ble_eq_true rfl) ?_
  refine W.eq (g2 := F0 m 4 ls []) rfl ?_
  refine lv_aload_n hx hb d_T_init_4 rfl (lv_at hl 0 rfl) ?_
  refine lv_bipush (v := 81) hx hb d_T_init_5 (by decide) ?_
  refine va_newa (atype := .int) (ty := .int) (N' := 81) (a0 := ((81 : Nat), .inl (fun _ => 0))) hx hb (hw_of hts mw_94) rfl hK hP hD hS hA (nw_i 81) (by decide +kernel) (by decide +kernel) (by decide +kernel) (by show _ ≤ 9; omega) (by show _ ≤ 650; omega) d_T_init_7 (fun q7 c7 H hK hP hD hS => ?_)
  have hK : va_K (dC, dI) vC [(c7, .int)] s := hK
  have hP : va_P (dC, dI) vC [(b, .inr (0, [.null, .null, .null, .null, .null, .int 0, .long 0, .long 0, .null, .null])), (q7, eI 81 c7 (fun _ => 0))] H := hP
  have hD : va_D A [(b, .inr (0, [.null, .null, .null, .null, .null, .int 0, .long 0, .long 0, .null, .null])), (q7, eI 81 c7 (fun _ => 0))] := hD
  refine va_putF (D := (dC, dI)) (ci := 0) (v := .ref q7) (ty := .array .int) (C := R_T) (T := F_T) (N := 10) hx hb hts (hin_of in_T) ft_T tk_T nm_T hown hK hP hD hS 0 rfl rfl 0 (by decide) (hw_of hts mw_96) (fun _ h9 => h9) rfl hin rfl (by decide +kernel) rfl rfl (Nat.le_of_ble_eq_true rfl) d_T_init_9 (fun H locs hP hD hS => ?_)
  have hP : va_P (dC, dI) vC [(b, .inr (0, [.ref q7, .null, .null, .null, .null, .int 0, .long 0, .long 0, .null, .null])), (q7, eI 81 c7 (fun _ => 0))] H := hP
  have hD : va_D A [(b, .inr (0, [.ref q7, .null, .null, .null, .null, .int 0, .long 0, .long 0, .null, .null])), (q7, eI 81 c7 (fun _ => 0))] := hD
  refine lv_aload_n hx hb d_T_init_12 rfl (lv_at hl 0 rfl) ?_
  refine lv_bipush (v := 81) hx hb d_T_init_13 (by decide) ?_
  refine va_newa (atype := .int) (ty := .int) (N' := 81) (a0 := ((81 : Nat), .inl (fun _ => 0))) hx hb (hw_of hts mw_94) rfl hK hP hD hS hA (nw_i 81) (by decide +kernel) (by decide +kernel) (by decide +kernel) (by show _ ≤ 9; omega) (by show _ ≤ 650; omega) d_T_init_15 (fun q15 c15 H hK hP hD hS => ?_)
  have hK : va_K (dC, dI) vC [(c7, .int), (c15, .int)] s := hK
  have hP : va_P (dC, dI) vC [(b, .inr (0, [.ref q7, .null, .null, .null, .null, .int 0, .long 0, .long 0, .null, .null])), (q7, eI 81 c7 (fun _ => 0)), (q15, eI 81 c15 (fun _ => 0))] H := hP
  have hD : va_D A [(b, .inr (0, [.ref q7, .null, .null, .null, .null, .int 0, .long 0, .long 0, .null, .null])), (q7, eI 81 c7 (fun _ => 0)), (q15, eI 81 c15 (fun _ => 0))] := hD
  refine va_putF (D := (dC, dI)) (ci := 0) (v := .ref q15) (ty := .array .int) (C := R_T) (T := F_T) (N := 10) hx hb hts (hin_of in_T) ft_T tk_T nm_T hown hK hP hD hS 0 rfl rfl 1 (by decide) (hw_of hts mw_98) (fun _ h9 => h9) rfl hin rfl (by decide +kernel) rfl rfl (Nat.le_of_ble_eq_true rfl) d_T_init_17 (fun H locs hP hD hS => ?_)
  have hP : va_P (dC, dI) vC [(b, .inr (0, [.ref q7, .ref q15, .null, .null, .null, .int 0, .long 0, .long 0, .null, .null])), (q7, eI 81 c7 (fun _ => 0)), (q15, eI 81 c15 (fun _ => 0))] H := hP
  have hD : va_D A [(b, .inr (0, [.ref q7, .ref q15, .null, .null, .null, .int 0, .long 0, .long 0, .null, .null])), (q7, eI 81 c7 (fun _ => 0)), (q15, eI 81 c15 (fun _ => 0))] := hD
  refine lv_aload_n hx hb d_T_init_20 rfl (lv_at hl 0 rfl) ?_
  refine lv_bipush (v := 81) hx hb d_T_init_21 (by decide) ?_
  refine va_newa (atype := .int) (ty := .int) (N' := 81) (a0 := ((81 : Nat), .inl (fun _ => 0))) hx hb (hw_of hts mw_94) rfl hK hP hD hS hA (nw_i 81) (by decide +kernel) (by decide +kernel) (by decide +kernel) (by show _ ≤ 9; omega) (by show _ ≤ 650; omega) d_T_init_23 (fun q23 c23 H hK hP hD hS => ?_)
  have hK : va_K (dC, dI) vC [(c7, .int), (c15, .int), (c23, .int)] s := hK
  have hP : va_P (dC, dI) vC [(b, .inr (0, [.ref q7, .ref q15, .null, .null, .null, .int 0, .long 0, .long 0, .null, .null])), (q7, eI 81 c7 (fun _ => 0)), (q15, eI 81 c15 (fun _ => 0)), (q23, eI 81 c23 (fun _ => 0))] H := hP
  have hD : va_D A [(b, .inr (0, [.ref q7, .ref q15, .null, .null, .null, .int 0, .long 0, .long 0, .null, .null])), (q7, eI 81 c7 (fun _ => 0)), (q15, eI 81 c15 (fun _ => 0)), (q23, eI 81 c23 (fun _ => 0))] := hD
  refine va_putF (D := (dC, dI)) (ci := 0) (v := .ref q23) (ty := .array .int) (C := R_T) (T := F_T) (N := 10) hx hb hts (hin_of in_T) ft_T tk_T nm_T hown hK hP hD hS 0 rfl rfl 2 (by decide) (hw_of hts mw_101) (fun _ h9 => h9) rfl hin rfl (by decide +kernel) rfl rfl (Nat.le_of_ble_eq_true rfl) d_T_init_25 (fun H locs hP hD hS => ?_)
  have hP : va_P (dC, dI) vC [(b, .inr (0, [.ref q7, .ref q15, .ref q23, .null, .null, .int 0, .long 0, .long 0, .null, .null])), (q7, eI 81 c7 (fun _ => 0)), (q15, eI 81 c15 (fun _ => 0)), (q23, eI 81 c23 (fun _ => 0))] H := hP
  have hD : va_D A [(b, .inr (0, [.ref q7, .ref q15, .ref q23, .null, .null, .int 0, .long 0, .long 0, .null, .null])), (q7, eI 81 c7 (fun _ => 0)), (q15, eI 81 c15 (fun _ => 0)), (q23, eI 81 c23 (fun _ => 0))] := hD
  refine lv_aload_n hx hb d_T_init_28 rfl (lv_at hl 0 rfl) ?_
  refine lv_bipush (v := 81) hx hb d_T_init_29 (by decide) ?_
  refine va_newa (atype := .int) (ty := .int) (N' := 81) (a0 := ((81 : Nat), .inl (fun _ => 0))) hx hb (hw_of hts mw_94) rfl hK hP hD hS hA (nw_i 81) (by decide +kernel) (by decide +kernel) (by decide +kernel) (by show _ ≤ 9; omega) (by show _ ≤ 650; omega) d_T_init_31 (fun q31 c31 H hK hP hD hS => ?_)
  have hK : va_K (dC, dI) vC [(c7, .int), (c15, .int), (c23, .int), (c31, .int)] s := hK
  have hP : va_P (dC, dI) vC [(b, .inr (0, [.ref q7, .ref q15, .ref q23, .null, .null, .int 0, .long 0, .long 0, .null, .null])), (q7, eI 81 c7 (fun _ => 0)), (q15, eI 81 c15 (fun _ => 0)), (q23, eI 81 c23 (fun _ => 0)), (q31, eI 81 c31 (fun _ => 0))] H := hP
  have hD : va_D A [(b, .inr (0, [.ref q7, .ref q15, .ref q23, .null, .null, .int 0, .long 0, .long 0, .null, .null])), (q7, eI 81 c7 (fun _ => 0)), (q15, eI 81 c15 (fun _ => 0)), (q23, eI 81 c23 (fun _ => 0)), (q31, eI 81 c31 (fun _ => 0))] := hD
  refine va_putF (D := (dC, dI)) (ci := 0) (v := .ref q31) (ty := .array .int) (C := R_T) (T := F_T) (N := 10) hx hb hts (hin_of in_T) ft_T tk_T nm_T hown hK hP hD hS 0 rfl rfl 3 (by decide) (hw_of hts mw_104) (fun _ h9 => h9) rfl hin rfl (by decide +kernel) rfl rfl (Nat.le_of_ble_eq_true rfl) d_T_init_33 (fun H locs hP hD hS => ?_)
  have hP : va_P (dC, dI) vC [(b, .inr (0, [.ref q7, .ref q15, .ref q23, .ref q31, .null, .int 0, .long 0, .long 0, .null, .null])), (q7, eI 81 c7 (fun _ => 0)), (q15, eI 81 c15 (fun _ => 0)), (q23, eI 81 c23 (fun _ => 0)), (q31, eI 81 c31 (fun _ => 0))] H := hP
  have hD : va_D A [(b, .inr (0, [.ref q7, .ref q15, .ref q23, .ref q31, .null, .int 0, .long 0, .long 0, .null, .null])), (q7, eI 81 c7 (fun _ => 0)), (q15, eI 81 c15 (fun _ => 0)), (q23, eI 81 c23 (fun _ => 0)), (q31, eI 81 c31 (fun _ => 0))] := hD
  refine lv_aload_n hx hb d_T_init_36 rfl (lv_at hl 0 rfl) ?_
  refine lv_bipush (v := 81) hx hb d_T_init_37 (by decide) ?_
  refine va_newa (atype := .long) (ty := .long) (N' := 81) (a0 := ((81 : Nat), .inr (.inl (fun _ => 0)))) hx hb (hw_of hts mw_95) rfl hK hP hD hS hA (nw_l 81) (by decide +kernel) (by decide +kernel) (by decide +kernel) (by show _ ≤ 9; omega) (by show _ ≤ 650; omega) d_T_init_39 (fun q39 c39 H hK hP hD hS => ?_)
  have hK : va_K (dC, dI) vC [(c7, .int), (c15, .int), (c23, .int), (c31, .int), (c39, .long)] s := hK
  have hP : va_P (dC, dI) vC [(b, .inr (0, [.ref q7, .ref q15, .ref q23, .ref q31, .null, .int 0, .long 0, .long 0, .null, .null])), (q7, eI 81 c7 (fun _ => 0)), (q15, eI 81 c15 (fun _ => 0)), (q23, eI 81 c23 (fun _ => 0)), (q31, eI 81 c31 (fun _ => 0)), (q39, eL 81 c39 (fun _ => 0))] H := hP
  have hD : va_D A [(b, .inr (0, [.ref q7, .ref q15, .ref q23, .ref q31, .null, .int 0, .long 0, .long 0, .null, .null])), (q7, eI 81 c7 (fun _ => 0)), (q15, eI 81 c15 (fun _ => 0)), (q23, eI 81 c23 (fun _ => 0)), (q31, eI 81 c31 (fun _ => 0)), (q39, eL 81 c39 (fun _ => 0))] := hD
  refine va_putF (D := (dC, dI)) (ci := 0) (v := .ref q39) (ty := .array .long) (C := R_T) (T := F_T) (N := 10) hx hb hts (hin_of in_T) ft_T tk_T nm_T hown hK hP hD hS 0 rfl rfl 4 (by decide) (hw_of hts mw_107) (fun _ h9 => h9) rfl hin rfl (by decide +kernel) rfl rfl (Nat.le_of_ble_eq_true rfl) d_T_init_41 (fun H locs hP hD hS => ?_)
  have hP : va_P (dC, dI) vC [(b, .inr (0, [.ref q7, .ref q15, .ref q23, .ref q31, .ref q39, .int 0, .long 0, .long 0, .null, .null])), (q7, eI 81 c7 (fun _ => 0)), (q15, eI 81 c15 (fun _ => 0)), (q23, eI 81 c23 (fun _ => 0)), (q31, eI 81 c31 (fun _ => 0)), (q39, eL 81 c39 (fun _ => 0))] H := hP
  have hD : va_D A [(b, .inr (0, [.ref q7, .ref q15, .ref q23, .ref q31, .ref q39, .int 0, .long 0, .long 0, .null, .null])), (q7, eI 81 c7 (fun _ => 0)), (q15, eI 81 c15 (fun _ => 0)), (q23, eI 81 c23 (fun _ => 0)), (q31, eI 81 c31 (fun _ => 0)), (q39, eL 81 c39 (fun _ => 0))] := hD
  refine lv_aload_n hx hb d_T_init_44 rfl (lv_at hl 0 rfl) ?_
  refine va_new (ci := 1) (fs := [.null, .null]) (C := R_P) (T := F_P) (N := 2) hx hb hts (hin_of in_P) ft_P tk_P hown (hw_of hts mw_72) (hw_of hts mw_73) (hw_of hts mw_43) hK hP hD hS hA rfl (fun j hj => by rcases (show j = 0 ∨ j = 1 by omega) with rfl | rfl <;> rfl) (Nat.le_of_ble_eq_true rfl) (Nat.le_of_ble_eq_true rfl) d_T_init_45 (fun q45 H hP hD hS => ?_)
  have hP : va_P (dC, dI) vC [(b, .inr (0, [.ref q7, .ref q15, .ref q23, .ref q31, .ref q39, .int 0, .long 0, .long 0, .null, .null])), (q7, eI 81 c7 (fun _ => 0)), (q15, eI 81 c15 (fun _ => 0)), (q23, eI 81 c23 (fun _ => 0)), (q31, eI 81 c31 (fun _ => 0)), (q39, eL 81 c39 (fun _ => 0)), (q45, .inr (1, [.null, .null]))] H := hP
  have hD : va_D A [(b, .inr (0, [.ref q7, .ref q15, .ref q23, .ref q31, .ref q39, .int 0, .long 0, .long 0, .null, .null])), (q7, eI 81 c7 (fun _ => 0)), (q15, eI 81 c15 (fun _ => 0)), (q23, eI 81 c23 (fun _ => 0)), (q31, eI 81 c31 (fun _ => 0)), (q39, eL 81 c39 (fun _ => 0)), (q45, .inr (1, [.null, .null]))] := hD
  refine lv_dup hx hb d_T_init_48 rfl ?_
  have hPc := hP.sub (ws' := [(q45, .inr (1, [.null, .null]))]) [6] rfl
  have hDc := hD.sub (ws' := [(q45, .inr (1, [.null, .null]))]) [6] (by decide) rfl
  have hKc := hK.sub (tys' := []) [] rfl
  have hFc := va_free (wc := [(q45, .inr (1, [.null, .null]))]) hD hS hA [6] rfl
  refine kw_calln (wr := [(b, .inr (0, [.ref q7, .ref q15, .ref q23, .ref q31, .ref q39, .int 0, .long 0, .long 0, .null, .null])), (q7, eI 81 c7 (fun _ => 0)), (q15, eI 81 c15 (fun _ => 0)), (q23, eI 81 c23 (fun _ => 0)), (q31, eI 81 c31 (fun _ => 0)), (q39, eL 81 c39 (fun _ => 0))]) (tysc := fun u => [(u.2 15, .int), (u.2 16, .int)]) (w := fun u => [(u.1 3, eP u.1), (u.1 15, eI 81 (u.2 15) prI), (u.1 16, eI 81 (u.2 16) prS)]) (va_runI (As := []) (rest := [.ref q45, .ref b]) ⟨hx, hb, hml, hown, hts⟩ (c_P_init l dC dI q45 tP tI _) (cwI 0 hts (gd_C mw_76) rfl rfl rfl (hw_of hts mw_43) (hw_of hts mw_74) (hw_of hts mw_75) rfl (by decide +kernel) ⟨Nat.le_of_ble_eq_true rfl, Nat.le_of_ble_eq_true rfl⟩) (kw_SX hKc hPc hDc hX hS hFc) rfl rfl hl.1 rfl (lv_room (Nat.le_of_ble_eq_true rfl)) d_T_init_49 ⟨Nat.le_of_ble_eq_true rfl, Nat.le_of_ble_eq_true rfl⟩) hK hP hD hS hA [6] [0, 1, 2, 3, 4, 5] rfl rfl (by decide) (by decide) (fun u49 hu49 H locs hK hP hD hS => ?_)
  obtain ⟨ad49, ca49⟩ := u49
  have hu49 : ad49 3 = q45 := hu49
  have hK : va_K (dC, dI) vC [(c7, .int), (c15, .int), (c23, .int), (c31, .int), (c39, .long), ((ca49 15), .int), ((ca49 16), .int)] s := hK
  have hP : va_P (dC, dI) vC [(b, .inr (0, [.ref q7, .ref q15, .ref q23, .ref q31, .ref q39, .int 0, .long 0, .long 0, .null, .null])), (q7, eI 81 c7 (fun _ => 0)), (q15, eI 81 c15 (fun _ => 0)), (q23, eI 81 c23 (fun _ => 0)), (q31, eI 81 c31 (fun _ => 0)), (q39, eL 81 c39 (fun _ => 0)), ((ad49 3), .inr (1, [.ref (ad49 15), .ref (ad49 16)])), ((ad49 15), eI 81 (ca49 15) prI), ((ad49 16), eI 81 (ca49 16) prS)] H := hP
  have hD : va_D A [(b, .inr (0, [.ref q7, .ref q15, .ref q23, .ref q31, .ref q39, .int 0, .long 0, .long 0, .null, .null])), (q7, eI 81 c7 (fun _ => 0)), (q15, eI 81 c15 (fun _ => 0)), (q23, eI 81 c23 (fun _ => 0)), (q31, eI 81 c31 (fun _ => 0)), (q39, eL 81 c39 (fun _ => 0)), ((ad49 3), .inr (1, [.ref (ad49 15), .ref (ad49 16)])), ((ad49 15), eI 81 (ca49 15) prI), ((ad49 16), eI 81 (ca49 16) prS)] := hD
  rw [hu49] at hP hD
  generalize ad49 15 = q49_15 at hP hD
  generalize ca49 15 = c49_15 at hP hD hK
  generalize ad49 16 = q49_16 at hP hD
  generalize ca49 16 = c49_16 at hP hD hK
  have hK : va_K (dC, dI) vC [(c7, .int), (c15, .int), (c23, .int), (c31, .int), (c39, .long), (c49_15, .int), (c49_16, .int)] s := hK
  have hP : va_P (dC, dI) vC [(b, .inr (0, [.ref q7, .ref q15, .ref q23, .ref q31, .ref q39, .int 0, .long 0, .long 0, .null, .null])), (q7, eI 81 c7 (fun _ => 0)), (q15, eI 81 c15 (fun _ => 0)), (q23, eI 81 c23 (fun _ => 0)), (q31, eI 81 c31 (fun _ => 0)), (q39, eL 81 c39 (fun _ => 0)), (q45, .inr (1, [.ref q49_15, .ref q49_16])), (q49_15, eI 81 c49_15 prI), (q49_16, eI 81 c49_16 prS)] H := hP
  have hD : va_D A [(b, .inr (0, [.ref q7, .ref q15, .ref q23, .ref q31, .ref q39, .int 0, .long 0, .long 0, .null, .null])), (q7, eI 81 c7 (fun _ => 0)), (q15, eI 81 c15 (fun _ => 0)), (q23, eI 81 c23 (fun _ => 0)), (q31, eI 81 c31 (fun _ => 0)), (q39, eL 81 c39 (fun _ => 0)), (q45, .inr (1, [.ref q49_15, .ref q49_16])), (q49_15, eI 81 c49_15 prI), (q49_16, eI 81 c49_16 prS)] := hD
  refine va_putF (D := (dC, dI)) (ci := 0) (v := .ref q45) (ty := .object "CoverHouse$Products") (C := R_T) (T := F_T) (N := 10) hx hb hts (hin_of in_T) ft_T tk_T nm_T hown hK hP hD hS 0 rfl rfl 8 (by decide) (hw_of hts mw_115) (fun _ h9 => h9) rfl hin rfl (by decide +kernel) rfl rfl (Nat.le_of_ble_eq_true rfl) d_T_init_52 (fun H locs hP hD hS => ?_)
  have hP : va_P (dC, dI) vC [(b, .inr (0, [.ref q7, .ref q15, .ref q23, .ref q31, .ref q39, .int 0, .long 0, .long 0, .ref q45, .null])), (q7, eI 81 c7 (fun _ => 0)), (q15, eI 81 c15 (fun _ => 0)), (q23, eI 81 c23 (fun _ => 0)), (q31, eI 81 c31 (fun _ => 0)), (q39, eL 81 c39 (fun _ => 0)), (q45, .inr (1, [.ref q49_15, .ref q49_16])), (q49_15, eI 81 c49_15 prI), (q49_16, eI 81 c49_16 prS)] H := hP
  have hD : va_D A [(b, .inr (0, [.ref q7, .ref q15, .ref q23, .ref q31, .ref q39, .int 0, .long 0, .long 0, .ref q45, .null])), (q7, eI 81 c7 (fun _ => 0)), (q15, eI 81 c15 (fun _ => 0)), (q23, eI 81 c23 (fun _ => 0)), (q31, eI 81 c31 (fun _ => 0)), (q39, eL 81 c39 (fun _ => 0)), (q45, .inr (1, [.ref q49_15, .ref q49_16])), (q49_15, eI 81 c49_15 prI), (q49_16, eI 81 c49_16 prS)] := hD
  refine lv_aload_n hx hb d_T_init_55 rfl (lv_at hl 0 rfl) ?_
  refine lv_bipush (v := 81) hx hb d_T_init_56 (by decide) ?_
  refine va_newa (atype := .int) (ty := .int) (N' := 81) (a0 := ((81 : Nat), .inl (fun _ => 0))) hx hb (hw_of hts mw_94) rfl hK hP hD hS hA (nw_i 81) (by decide +kernel) (by decide +kernel) (by decide +kernel) (by show _ ≤ 9; omega) (by show _ ≤ 650; omega) d_T_init_58 (fun q58 c58 H hK hP hD hS => ?_)
  have hK : va_K (dC, dI) vC [(c7, .int), (c15, .int), (c23, .int), (c31, .int), (c39, .long), (c49_15, .int), (c49_16, .int), (c58, .int)] s := hK
  have hP : va_P (dC, dI) vC [(b, .inr (0, [.ref q7, .ref q15, .ref q23, .ref q31, .ref q39, .int 0, .long 0, .long 0, .ref q45, .null])), (q7, eI 81 c7 (fun _ => 0)), (q15, eI 81 c15 (fun _ => 0)), (q23, eI 81 c23 (fun _ => 0)), (q31, eI 81 c31 (fun _ => 0)), (q39, eL 81 c39 (fun _ => 0)), (q45, .inr (1, [.ref q49_15, .ref q49_16])), (q49_15, eI 81 c49_15 prI), (q49_16, eI 81 c49_16 prS), (q58, eI 81 c58 (fun _ => 0))] H := hP
  have hD : va_D A [(b, .inr (0, [.ref q7, .ref q15, .ref q23, .ref q31, .ref q39, .int 0, .long 0, .long 0, .ref q45, .null])), (q7, eI 81 c7 (fun _ => 0)), (q15, eI 81 c15 (fun _ => 0)), (q23, eI 81 c23 (fun _ => 0)), (q31, eI 81 c31 (fun _ => 0)), (q39, eL 81 c39 (fun _ => 0)), (q45, .inr (1, [.ref q49_15, .ref q49_16])), (q49_15, eI 81 c49_15 prI), (q49_16, eI 81 c49_16 prS), (q58, eI 81 c58 (fun _ => 0))] := hD
  refine va_putF (D := (dC, dI)) (ci := 0) (v := .ref q58) (ty := .array .int) (C := R_T) (T := F_T) (N := 10) hx hb hts (hin_of in_T) ft_T tk_T nm_T hown hK hP hD hS 0 rfl rfl 9 (by decide) (hw_of hts mw_116) (fun _ h9 => h9) rfl hin rfl (by decide +kernel) rfl rfl (Nat.le_of_ble_eq_true rfl) d_T_init_60 (fun H locs hP hD hS => ?_)
  have hP : va_P (dC, dI) vC [(b, .inr (0, [.ref q7, .ref q15, .ref q23, .ref q31, .ref q39, .int 0, .long 0, .long 0, .ref q45, .ref q58])), (q7, eI 81 c7 (fun _ => 0)), (q15, eI 81 c15 (fun _ => 0)), (q23, eI 81 c23 (fun _ => 0)), (q31, eI 81 c31 (fun _ => 0)), (q39, eL 81 c39 (fun _ => 0)), (q45, .inr (1, [.ref q49_15, .ref q49_16])), (q49_15, eI 81 c49_15 prI), (q49_16, eI 81 c49_16 prS), (q58, eI 81 c58 (fun _ => 0))] H := hP
  have hD : va_D A [(b, .inr (0, [.ref q7, .ref q15, .ref q23, .ref q31, .ref q39, .int 0, .long 0, .long 0, .ref q45, .ref q58])), (q7, eI 81 c7 (fun _ => 0)), (q15, eI 81 c15 (fun _ => 0)), (q23, eI 81 c23 (fun _ => 0)), (q31, eI 81 c31 (fun _ => 0)), (q39, eL 81 c39 (fun _ => 0)), (q45, .inr (1, [.ref q49_15, .ref q49_16])), (q49_15, eI 81 c49_15 prI), (q49_16, eI 81 c49_16 prS), (q58, eI 81 c58 (fun _ => 0))] := hD
  obtain ⟨ad, e_2, e_9, e_10, e_11, e_12, e_13, e_3, e_15, e_16, e_14⟩ : ∃ ad : Nat → Nat, ad 2 = b ∧ ad 9 = q7 ∧ ad 10 = q15 ∧ ad 11 = q23 ∧ ad 12 = q31 ∧ ad 13 = q39 ∧ ad 3 = q45 ∧ ad 15 = q49_15 ∧ ad 16 = q49_16 ∧ ad 14 = q58 := ⟨fun k => if k = 2 then b else if k = 9 then q7 else if k = 10 then q15 else if k = 11 then q23 else if k = 12 then q31 else if k = 13 then q39 else if k = 3 then q45 else if k = 15 then q49_15 else if k = 16 then q49_16 else q58, rfl, rfl, rfl, rfl, rfl, rfl, rfl, rfl, rfl, rfl⟩
  obtain ⟨ca, f_9, f_10, f_11, f_12, f_13, f_15, f_16, f_14⟩ : ∃ ca : Nat → ClassId, ca 9 = c7 ∧ ca 10 = c15 ∧ ca 11 = c23 ∧ ca 12 = c31 ∧ ca 13 = c39 ∧ ca 15 = c49_15 ∧ ca 16 = c49_16 ∧ ca 14 = c58 := ⟨fun k => if k = 9 then c7 else if k = 10 then c15 else if k = 11 then c23 else if k = 12 then c31 else if k = 13 then c39 else if k = 15 then c49_15 else if k = 16 then c49_16 else c58, rfl, rfl, rfl, rfl, rfl, rfl, rfl, rfl⟩
  subst e_2
  subst e_9
  subst e_10
  subst e_11
  subst e_12
  subst e_13
  subst e_3
  subst e_15
  subst e_16
  subst e_14
  subst f_9
  subst f_10
  subst f_11
  subst f_12
  subst f_13
  subst f_15
  subst f_16
  subst f_14
  have hK0 : va_K (dC, dI) vC [(ca 9, .int), (ca 10, .int), (ca 11, .int), (ca 12, .int), (ca 13, .long), (ca 15, .int), (ca 16, .int), (ca 14, .int)] s := hK
  have hK := hK0.sub (tys' := [(ca 9, .int), (ca 10, .int), (ca 11, .int), (ca 12, .int), (ca 13, .long), (ca 15, .int), (ca 16, .int), (ca 14, .int)]) [0, 1, 2, 3, 4, 5, 6, 7] rfl
  have hP : va_P (dC, dI) vC [(ad 2, eT ad 0 0 0), (ad 9, eI 81 (ca 9) (fun _ => 0)), (ad 10, eI 81 (ca 10) (fun _ => 0)), (ad 11, eI 81 (ca 11) (fun _ => 0)), (ad 12, eI 81 (ca 12) (fun _ => 0)), (ad 13, eL 81 (ca 13) (fun _ => 0)), (ad 3, eP ad), (ad 15, eI 81 (ca 15) prI), (ad 16, eI 81 (ca 16) prS), (ad 14, eI 81 (ca 14) (fun _ => 0))] H := hP
  have hD : va_D A [(ad 2, eT ad 0 0 0), (ad 9, eI 81 (ca 9) (fun _ => 0)), (ad 10, eI 81 (ca 10) (fun _ => 0)), (ad 11, eI 81 (ca 11) (fun _ => 0)), (ad 12, eI 81 (ca 12) (fun _ => 0)), (ad 13, eL 81 (ca 13) (fun _ => 0)), (ad 3, eP ad), (ad 15, eI 81 (ca 15) prI), (ad 16, eI 81 (ca 16) prS), (ad 14, eI 81 (ca 14) (fun _ => 0))] := hD
  refine W.widen (k := 9) (n := 650) (by omega) (by omega) ?_
  exact W.vret hx hb hr (fun t ht hW => kw_endn (tysc := fun u => [(u.2 9, .int), (u.2 10, .int), (u.2 11, .int), (u.2 12, .int), (u.2 13, .long), (u.2 14, .int), (u.2 15, .int), (u.2 16, .int)]) (post := fun u => u.1 2 = ad 2) (w := fun u => [(u.1 2, eT u.1 0 0 0), (u.1 3, eP u.1), (u.1 9, eI 81 (u.2 9) (fun _ => 0)), (u.1 10, eI 81 (u.2 10) (fun _ => 0)), (u.1 11, eI 81 (u.2 11) (fun _ => 0)), (u.1 12, eI 81 (u.2 12) (fun _ => 0)), (u.1 13, eL 81 (u.2 13) (fun _ => 0)), (u.1 14, eI 81 (u.2 14) (fun _ => 0)), (u.1 15, eI 81 (u.2 15) prI), (u.1 16, eI 81 (u.2 16) prS)]) (ad, ca) rfl hP hD (hK0.sub (tys' := [(ca 9, .int), (ca 10, .int), (ca 11, .int), (ca 12, .int), (ca 13, .long), (ca 14, .int), (ca 15, .int), (ca 16, .int)]) [0, 1, 2, 3, 4, 7, 5, 6] rfl) hS [0, 6, 1, 2, 3, 4, 5, 9, 7, 8] rfl (by decide) rfl ht hW.alike) hS.2.2 d_T_init_63
set_option maxHeartbeats 4000000 in
set_option maxRecDepth 100000 in
theorem c_S_init (l : Launch) (dC : Nat → ClassId) (dI : Nat → Nat → Nat) (b : Nat) (tP tI : Nat) (sz : Nat) : Met l y_S_init w_S_init ({ frames := 8, cells := 13, slots := 854, locals := 300 }) (kw_N (kw_PX tP tI [.ref b] sz (dC, dI) vC [(b, .inr (2, [.null, .int 0, .int 0, .null, .null, .null, .int 0, .long 0]))] [])) (kw_Qn (dC, dI) vC (fun u => [(u.2 6, .int), (u.2 7, .int), (u.2 8, .long), (u.2 9, .int), (u.2 10, .int), (u.2 11, .int), (u.2 12, .int), (u.2 13, .long), (u.2 14, .int), (u.2 15, .int), (u.2 16, .int)]) (va_A [(b, .inr (2, [.null, .int 0, .int 0, .null, .null, .null, .int 0, .long 0]))] sz) (fun u => u.1 1 = b) (fun u => [(u.1 1, eS u.1 0 0 0 0), (u.1 2, eT u.1 0 0 0), (u.1 3, eP u.1), (u.1 6, eI 81 (u.2 6) (fun _ => 0)), (u.1 7, eI 81 (u.2 7) (fun _ => 0)), (u.1 8, eL 32 (u.2 8) (fun _ => 0)), (u.1 9, eI 81 (u.2 9) (fun _ => 0)), (u.1 10, eI 81 (u.2 10) (fun _ => 0)), (u.1 11, eI 81 (u.2 11) (fun _ => 0)), (u.1 12, eI 81 (u.2 12) (fun _ => 0)), (u.1 13, eL 81 (u.2 13) (fun _ => 0)), (u.1 14, eI 81 (u.2 14) (fun _ => 0)), (u.1 15, eI 81 (u.2 15) prI), (u.1 16, eI 81 (u.2 16) prS)])) 13 854 (va_A [(b, .inr (2, [.null, .int 0, .int 0, .null, .null, .null, .int 0, .long 0]))] sz) := by
  refine Met.ofW (cc := b_S_init) (maxL := 1) (ret := none) (by decide) rfl ?_
  intro p e s m args below meth c s₁ B hml hv
  obtain ⟨⟨⟨rfl, hsz, hP, hK, hD0⟩, hX⟩, hnn⟩ := hv
  have hx := B.exec
  have hb := B.bytes
  have hr := B.returns
  have hts := atoms_spec (ws := w_S_init) B.pre
  have hlocks := B.notSynchronized
  have hown : s.vm.findClass R_S = some m.cls := findClass_of_methodNamed B.named
  have hin : meth.name = "<init>" := (name_of_methodNamed B.named B.method).1
  subst hsz
  have hD := hD0.self (sz := s.heap.size)
  generalize hAe : va_A [(b, .inr (2, [.null, .int 0, .int 0, .null, .null, .null, .int 0, .long 0]))] s.heap.size = A at hD hX ⊢
  have hA : ∀ q : Nat, s.heap.size ≤ q → A q := fun q h => by rw [← hAe]; exact Or.inr h
  clear hAe
  have hS : va_S A s.heap s.heap [] := va_S.rf
  have hP : va_P (dC, dI) vC [(b, .inr (2, [.null, .int 0, .int 0, .null, .null, .null, .int 0, .long 0]))] s.heap := hP
  have hl := lv_entry ([.ref b]) (n := 1) (Nat.le_of_ble_eq_true rfl)
  rw [lg_entry_eq]
  generalize (lg_sl ([.ref b]) ++ List.replicate (1 - (lg_sl ([.ref b])).length) Slot.unset).toArray = ls at hl ⊢
  have hl : lv_has ls 1 [(0, .ref b)] := hl
  refine lv_aload_n hx hb d_S_init_0 rfl (lv_at hl 0 rfl) ?_
  refine W.objInit hx hb hown (hw_of hts mw_65) (hw_of hts mw_58) (hw_of hts mw_59) rfl (by rw [hml]; exact hl.1) rfl d_S_init_1 (Nat.le_of_ble_eq_true rfl) (Nat.le_of_ble_eq_true rfl) ?_
  refine W.eq (g2 := F0 m 4 ls []) rfl ?_
  refine lv_aload_n hx hb d_S_init_4 rfl (lv_at hl 0 rfl) ?_
  refine lv_bipush (v := 81) hx hb d_S_init_5 (by decide) ?_
  refine va_newa (atype := .int) (ty := .int) (N' := 81) (a0 := ((81 : Nat), .inl (fun _ => 0))) hx hb (hw_of hts mw_94) rfl hK hP hD hS hA (nw_i 81) (by decide +kernel) (by decide +kernel) (by decide +kernel) (by show _ ≤ 13; omega) (by show _ ≤ 854; omega) d_S_init_7 (fun q7 c7 H hK hP hD hS => ?_)
  have hK : va_K (dC, dI) vC [(c7, .int)] s := hK
  have hP : va_P (dC, dI) vC [(b, .inr (2, [.null, .int 0, .int 0, .null, .null, .null, .int 0, .long 0])), (q7, eI 81 c7 (fun _ => 0))] H := hP
  have hD : va_D A [(b, .inr (2, [.null, .int 0, .int 0, .null, .null, .null, .int 0, .long 0])), (q7, eI 81 c7 (fun _ => 0))] := hD
  refine va_putF (D := (dC, dI)) (ci := 2) (v := .ref q7) (ty := .array .int) (C := R_S) (T := F_S) (N := 8) hx hb hts (hin_of in_S) ft_S tk_S nm_S hown hK hP hD hS 0 rfl rfl 0 (by decide) (hw_of hts mw_138) (fun _ h9 => h9) rfl hin rfl (by decide +kernel) rfl rfl (Nat.le_of_ble_eq_true rfl) d_S_init_9 (fun H locs hP hD hS => ?_)
  have hP : va_P (dC, dI) vC [(b, .inr (2, [.ref q7, .int 0, .int 0, .null, .null, .null, .int 0, .long 0])), (q7, eI 81 c7 (fun _ => 0))] H := hP
  have hD : va_D A [(b, .inr (2, [.ref q7, .int 0, .int 0, .null, .null, .null, .int 0, .long 0])), (q7, eI 81 c7 (fun _ => 0))] := hD
  refine lv_aload_n hx hb d_S_init_12 rfl (lv_at hl 0 rfl) ?_
  refine va_new (ci := 0) (fs := [.null, .null, .null, .null, .null, .int 0, .long 0, .long 0, .null, .null]) (C := R_T) (T := F_T) (N := 10) hx hb hts (hin_of in_T) ft_T tk_T hown (hw_of hts mw_66) (hw_of hts mw_67) (hw_of hts mw_42) hK hP hD hS hA rfl (fun j hj => by rcases (show j = 0 ∨ j = 1 ∨ j = 2 ∨ j = 3 ∨ j = 4 ∨ j = 5 ∨ j = 6 ∨ j = 7 ∨ j = 8 ∨ j = 9 by omega) with rfl | rfl | rfl | rfl | rfl | rfl | rfl | rfl | rfl | rfl <;> rfl) (Nat.le_of_ble_eq_true rfl) (Nat.le_of_ble_eq_true rfl) d_S_init_13 (fun q13 H hP hD hS => ?_)
  have hP : va_P (dC, dI) vC [(b, .inr (2, [.ref q7, .int 0, .int 0, .null, .null, .null, .int 0, .long 0])), (q7, eI 81 c7 (fun _ => 0)), (q13, .inr (0, [.null, .null, .null, .null, .null, .int 0, .long 0, .long 0, .null, .null]))] H := hP
  have hD : va_D A [(b, .inr (2, [.ref q7, .int 0, .int 0, .null, .null, .null, .int 0, .long 0])), (q7, eI 81 c7 (fun _ => 0)), (q13, .inr (0, [.null, .null, .null, .null, .null, .int 0, .long 0, .long 0, .null, .null]))] := hD
  refine lv_dup hx hb d_S_init_16 rfl ?_
  have hPc := hP.sub (ws' := [(q13, .inr (0, [.null, .null, .null, .null, .null, .int 0, .long 0, .long 0, .null, .null]))]) [2] rfl
  have hDc := hD.sub (ws' := [(q13, .inr (0, [.null, .null, .null, .null, .null, .int 0, .long 0, .long 0, .null, .null]))]) [2] (by decide) rfl
  have hKc := hK.sub (tys' := []) [] rfl
  have hFc := va_free (wc := [(q13, .inr (0, [.null, .null, .null, .null, .null, .int 0, .long 0, .long 0, .null, .null]))]) hD hS hA [2] rfl
  refine kw_calln (wr := [(b, .inr (2, [.ref q7, .int 0, .int 0, .null, .null, .null, .int 0, .long 0])), (q7, eI 81 c7 (fun _ => 0))]) (tysc := fun u => [(u.2 9, .int), (u.2 10, .int), (u.2 11, .int), (u.2 12, .int), (u.2 13, .long), (u.2 14, .int), (u.2 15, .int), (u.2 16, .int)]) (w := fun u => [(u.1 2, eT u.1 0 0 0), (u.1 3, eP u.1), (u.1 9, eI 81 (u.2 9) (fun _ => 0)), (u.1 10, eI 81 (u.2 10) (fun _ => 0)), (u.1 11, eI 81 (u.2 11) (fun _ => 0)), (u.1 12, eI 81 (u.2 12) (fun _ => 0)), (u.1 13, eL 81 (u.2 13) (fun _ => 0)), (u.1 14, eI 81 (u.2 14) (fun _ => 0)), (u.1 15, eI 81 (u.2 15) prI), (u.1 16, eI 81 (u.2 16) prS)]) (va_runIN (As := []) (rest := [.ref q13, .ref b]) ⟨hx, hb, hml, hown, hts⟩ (c_T_init l dC dI q13 tP tI _) ⟨va_cnB 0 hts (gd_C mw_70) rfl rfl rfl (hnn _ (List.mem_of_getElem? (l := nn_L) (i := 1) rfl)) (hw_of hts mw_42) (by decide +kernel) ⟨Nat.le_of_ble_eq_true rfl, Nat.le_of_ble_eq_true rfl⟩, rfl, (hw_of hts mw_69)⟩ (kw_SX hKc hPc hDc hX hS hFc) rfl rfl hl.1 rfl (lv_room (Nat.le_of_ble_eq_true rfl)) d_S_init_17 ⟨Nat.le_of_ble_eq_true rfl, Nat.le_of_ble_eq_true rfl⟩) hK hP hD hS hA [2] [0, 1] rfl rfl (by decide) (by decide) (fun u17 hu17 H locs hK hP hD hS => ?_)
  obtain ⟨ad17, ca17⟩ := u17
  have hu17 : ad17 2 = q13 := hu17
  have hK : va_K (dC, dI) vC [(c7, .int), ((ca17 9), .int), ((ca17 10), .int), ((ca17 11), .int), ((ca17 12), .int), ((ca17 13), .long), ((ca17 14), .int), ((ca17 15), .int), ((ca17 16), .int)] s := hK
  have hP : va_P (dC, dI) vC [(b, .inr (2, [.ref q7, .int 0, .int 0, .null, .null, .null, .int 0, .long 0])), (q7, eI 81 c7 (fun _ => 0)), ((ad17 2), .inr (0, [.ref (ad17 9), .ref (ad17 10), .ref (ad17 11), .ref (ad17 12), .ref (ad17 13), .int 0, .long 0, .long 0, .ref (ad17 3), .ref (ad17 14)])), ((ad17 3), .inr (1, [.ref (ad17 15), .ref (ad17 16)])), ((ad17 9), eI 81 (ca17 9) (fun _ => 0)), ((ad17 10), eI 81 (ca17 10) (fun _ => 0)), ((ad17 11), eI 81 (ca17 11) (fun _ => 0)), ((ad17 12), eI 81 (ca17 12) (fun _ => 0)), ((ad17 13), eL 81 (ca17 13) (fun _ => 0)), ((ad17 14), eI 81 (ca17 14) (fun _ => 0)), ((ad17 15), eI 81 (ca17 15) prI), ((ad17 16), eI 81 (ca17 16) prS)] H := hP
  have hD : va_D A [(b, .inr (2, [.ref q7, .int 0, .int 0, .null, .null, .null, .int 0, .long 0])), (q7, eI 81 c7 (fun _ => 0)), ((ad17 2), .inr (0, [.ref (ad17 9), .ref (ad17 10), .ref (ad17 11), .ref (ad17 12), .ref (ad17 13), .int 0, .long 0, .long 0, .ref (ad17 3), .ref (ad17 14)])), ((ad17 3), .inr (1, [.ref (ad17 15), .ref (ad17 16)])), ((ad17 9), eI 81 (ca17 9) (fun _ => 0)), ((ad17 10), eI 81 (ca17 10) (fun _ => 0)), ((ad17 11), eI 81 (ca17 11) (fun _ => 0)), ((ad17 12), eI 81 (ca17 12) (fun _ => 0)), ((ad17 13), eL 81 (ca17 13) (fun _ => 0)), ((ad17 14), eI 81 (ca17 14) (fun _ => 0)), ((ad17 15), eI 81 (ca17 15) prI), ((ad17 16), eI 81 (ca17 16) prS)] := hD
  rw [hu17] at hP hD
  generalize ad17 3 = q17_3 at hP hD
  generalize ad17 9 = q17_9 at hP hD
  generalize ca17 9 = c17_9 at hP hD hK
  generalize ad17 10 = q17_10 at hP hD
  generalize ca17 10 = c17_10 at hP hD hK
  generalize ad17 11 = q17_11 at hP hD
  generalize ca17 11 = c17_11 at hP hD hK
  generalize ad17 12 = q17_12 at hP hD
  generalize ca17 12 = c17_12 at hP hD hK
  generalize ad17 13 = q17_13 at hP hD
  generalize ca17 13 = c17_13 at hP hD hK
  generalize ad17 14 = q17_14 at hP hD
  generalize ca17 14 = c17_14 at hP hD hK
  generalize ad17 15 = q17_15 at hP hD
  generalize ca17 15 = c17_15 at hP hD hK
  generalize ad17 16 = q17_16 at hP hD
  generalize ca17 16 = c17_16 at hP hD hK
  have hK : va_K (dC, dI) vC [(c7, .int), (c17_9, .int), (c17_10, .int), (c17_11, .int), (c17_12, .int), (c17_13, .long), (c17_14, .int), (c17_15, .int), (c17_16, .int)] s := hK
  have hP : va_P (dC, dI) vC [(b, .inr (2, [.ref q7, .int 0, .int 0, .null, .null, .null, .int 0, .long 0])), (q7, eI 81 c7 (fun _ => 0)), (q13, .inr (0, [.ref q17_9, .ref q17_10, .ref q17_11, .ref q17_12, .ref q17_13, .int 0, .long 0, .long 0, .ref q17_3, .ref q17_14])), (q17_3, .inr (1, [.ref q17_15, .ref q17_16])), (q17_9, eI 81 c17_9 (fun _ => 0)), (q17_10, eI 81 c17_10 (fun _ => 0)), (q17_11, eI 81 c17_11 (fun _ => 0)), (q17_12, eI 81 c17_12 (fun _ => 0)), (q17_13, eL 81 c17_13 (fun _ => 0)), (q17_14, eI 81 c17_14 (fun _ => 0)), (q17_15, eI 81 c17_15 prI), (q17_16, eI 81 c17_16 prS)] H := hP
  have hD : va_D A [(b, .inr (2, [.ref q7, .int 0, .int 0, .null, .null, .null, .int 0, .long 0])), (q7, eI 81 c7 (fun _ => 0)), (q13, .inr (0, [.ref q17_9, .ref q17_10, .ref q17_11, .ref q17_12, .ref q17_13, .int 0, .long 0, .long 0, .ref q17_3, .ref q17_14])), (q17_3, .inr (1, [.ref q17_15, .ref q17_16])), (q17_9, eI 81 c17_9 (fun _ => 0)), (q17_10, eI 81 c17_10 (fun _ => 0)), (q17_11, eI 81 c17_11 (fun _ => 0)), (q17_12, eI 81 c17_12 (fun _ => 0)), (q17_13, eL 81 c17_13 (fun _ => 0)), (q17_14, eI 81 c17_14 (fun _ => 0)), (q17_15, eI 81 c17_15 prI), (q17_16, eI 81 c17_16 prS)] := hD
  refine va_putF (D := (dC, dI)) (ci := 2) (v := .ref q13) (ty := .object "CoverHouse$Candidates") (C := R_S) (T := F_S) (N := 8) hx hb hts (hin_of in_S) ft_S tk_S nm_S hown hK hP hD hS 0 rfl rfl 3 (by decide) (hw_of hts mw_144) (fun _ h9 => h9) rfl hin rfl (by decide +kernel) rfl rfl (Nat.le_of_ble_eq_true rfl) d_S_init_20 (fun H locs hP hD hS => ?_)
  have hP : va_P (dC, dI) vC [(b, .inr (2, [.ref q7, .int 0, .int 0, .ref q13, .null, .null, .int 0, .long 0])), (q7, eI 81 c7 (fun _ => 0)), (q13, .inr (0, [.ref q17_9, .ref q17_10, .ref q17_11, .ref q17_12, .ref q17_13, .int 0, .long 0, .long 0, .ref q17_3, .ref q17_14])), (q17_3, .inr (1, [.ref q17_15, .ref q17_16])), (q17_9, eI 81 c17_9 (fun _ => 0)), (q17_10, eI 81 c17_10 (fun _ => 0)), (q17_11, eI 81 c17_11 (fun _ => 0)), (q17_12, eI 81 c17_12 (fun _ => 0)), (q17_13, eL 81 c17_13 (fun _ => 0)), (q17_14, eI 81 c17_14 (fun _ => 0)), (q17_15, eI 81 c17_15 prI), (q17_16, eI 81 c17_16 prS)] H := hP
  have hD : va_D A [(b, .inr (2, [.ref q7, .int 0, .int 0, .ref q13, .null, .null, .int 0, .long 0])), (q7, eI 81 c7 (fun _ => 0)), (q13, .inr (0, [.ref q17_9, .ref q17_10, .ref q17_11, .ref q17_12, .ref q17_13, .int 0, .long 0, .long 0, .ref q17_3, .ref q17_14])), (q17_3, .inr (1, [.ref q17_15, .ref q17_16])), (q17_9, eI 81 c17_9 (fun _ => 0)), (q17_10, eI 81 c17_10 (fun _ => 0)), (q17_11, eI 81 c17_11 (fun _ => 0)), (q17_12, eI 81 c17_12 (fun _ => 0)), (q17_13, eL 81 c17_13 (fun _ => 0)), (q17_14, eI 81 c17_14 (fun _ => 0)), (q17_15, eI 81 c17_15 prI), (q17_16, eI 81 c17_16 prS)] := hD
  refine lv_aload_n hx hb d_S_init_23 rfl (lv_at hl 0 rfl) ?_
  refine lv_bipush (v := 81) hx hb d_S_init_24 (by decide) ?_
  refine va_newa (atype := .int) (ty := .int) (N' := 81) (a0 := ((81 : Nat), .inl (fun _ => 0))) hx hb (hw_of hts mw_94) rfl hK hP hD hS hA (nw_i 81) (by decide +kernel) (by decide +kernel) (by decide +kernel) (by show _ ≤ 13; omega) (by show _ ≤ 854; omega) d_S_init_26 (fun q26 c26 H hK hP hD hS => ?_)
  have hK : va_K (dC, dI) vC [(c7, .int), (c17_9, .int), (c17_10, .int), (c17_11, .int), (c17_12, .int), (c17_13, .long), (c17_14, .int), (c17_15, .int), (c17_16, .int), (c26, .int)] s := hK
  have hP : va_P (dC, dI) vC [(b, .inr (2, [.ref q7, .int 0, .int 0, .ref q13, .null, .null, .int 0, .long 0])), (q7, eI 81 c7 (fun _ => 0)), (q13, .inr (0, [.ref q17_9, .ref q17_10, .ref q17_11, .ref q17_12, .ref q17_13, .int 0, .long 0, .long 0, .ref q17_3, .ref q17_14])), (q17_3, .inr (1, [.ref q17_15, .ref q17_16])), (q17_9, eI 81 c17_9 (fun _ => 0)), (q17_10, eI 81 c17_10 (fun _ => 0)), (q17_11, eI 81 c17_11 (fun _ => 0)), (q17_12, eI 81 c17_12 (fun _ => 0)), (q17_13, eL 81 c17_13 (fun _ => 0)), (q17_14, eI 81 c17_14 (fun _ => 0)), (q17_15, eI 81 c17_15 prI), (q17_16, eI 81 c17_16 prS), (q26, eI 81 c26 (fun _ => 0))] H := hP
  have hD : va_D A [(b, .inr (2, [.ref q7, .int 0, .int 0, .ref q13, .null, .null, .int 0, .long 0])), (q7, eI 81 c7 (fun _ => 0)), (q13, .inr (0, [.ref q17_9, .ref q17_10, .ref q17_11, .ref q17_12, .ref q17_13, .int 0, .long 0, .long 0, .ref q17_3, .ref q17_14])), (q17_3, .inr (1, [.ref q17_15, .ref q17_16])), (q17_9, eI 81 c17_9 (fun _ => 0)), (q17_10, eI 81 c17_10 (fun _ => 0)), (q17_11, eI 81 c17_11 (fun _ => 0)), (q17_12, eI 81 c17_12 (fun _ => 0)), (q17_13, eL 81 c17_13 (fun _ => 0)), (q17_14, eI 81 c17_14 (fun _ => 0)), (q17_15, eI 81 c17_15 prI), (q17_16, eI 81 c17_16 prS), (q26, eI 81 c26 (fun _ => 0))] := hD
  refine va_putF (D := (dC, dI)) (ci := 2) (v := .ref q26) (ty := .array .int) (C := R_S) (T := F_S) (N := 8) hx hb hts (hin_of in_S) ft_S tk_S nm_S hown hK hP hD hS 0 rfl rfl 4 (by decide) (hw_of hts mw_146) (fun _ h9 => h9) rfl hin rfl (by decide +kernel) rfl rfl (Nat.le_of_ble_eq_true rfl) d_S_init_28 (fun H locs hP hD hS => ?_)
  have hP : va_P (dC, dI) vC [(b, .inr (2, [.ref q7, .int 0, .int 0, .ref q13, .ref q26, .null, .int 0, .long 0])), (q7, eI 81 c7 (fun _ => 0)), (q13, .inr (0, [.ref q17_9, .ref q17_10, .ref q17_11, .ref q17_12, .ref q17_13, .int 0, .long 0, .long 0, .ref q17_3, .ref q17_14])), (q17_3, .inr (1, [.ref q17_15, .ref q17_16])), (q17_9, eI 81 c17_9 (fun _ => 0)), (q17_10, eI 81 c17_10 (fun _ => 0)), (q17_11, eI 81 c17_11 (fun _ => 0)), (q17_12, eI 81 c17_12 (fun _ => 0)), (q17_13, eL 81 c17_13 (fun _ => 0)), (q17_14, eI 81 c17_14 (fun _ => 0)), (q17_15, eI 81 c17_15 prI), (q17_16, eI 81 c17_16 prS), (q26, eI 81 c26 (fun _ => 0))] H := hP
  have hD : va_D A [(b, .inr (2, [.ref q7, .int 0, .int 0, .ref q13, .ref q26, .null, .int 0, .long 0])), (q7, eI 81 c7 (fun _ => 0)), (q13, .inr (0, [.ref q17_9, .ref q17_10, .ref q17_11, .ref q17_12, .ref q17_13, .int 0, .long 0, .long 0, .ref q17_3, .ref q17_14])), (q17_3, .inr (1, [.ref q17_15, .ref q17_16])), (q17_9, eI 81 c17_9 (fun _ => 0)), (q17_10, eI 81 c17_10 (fun _ => 0)), (q17_11, eI 81 c17_11 (fun _ => 0)), (q17_12, eI 81 c17_12 (fun _ => 0)), (q17_13, eL 81 c17_13 (fun _ => 0)), (q17_14, eI 81 c17_14 (fun _ => 0)), (q17_15, eI 81 c17_15 prI), (q17_16, eI 81 c17_16 prS), (q26, eI 81 c26 (fun _ => 0))] := hD
  refine lv_aload_n hx hb d_S_init_31 rfl (lv_at hl 0 rfl) ?_
  refine lv_bipush (v := 32) hx hb d_S_init_32 (by decide) ?_
  refine va_newa (atype := .long) (ty := .long) (N' := 32) (a0 := ((32 : Nat), .inr (.inl (fun _ => 0)))) hx hb (hw_of hts mw_95) rfl hK hP hD hS hA (nw_l 32) (by decide +kernel) (by decide +kernel) (by decide +kernel) (by show _ ≤ 13; omega) (by show _ ≤ 854; omega) d_S_init_34 (fun q34 c34 H hK hP hD hS => ?_)
  have hK : va_K (dC, dI) vC [(c7, .int), (c17_9, .int), (c17_10, .int), (c17_11, .int), (c17_12, .int), (c17_13, .long), (c17_14, .int), (c17_15, .int), (c17_16, .int), (c26, .int), (c34, .long)] s := hK
  have hP : va_P (dC, dI) vC [(b, .inr (2, [.ref q7, .int 0, .int 0, .ref q13, .ref q26, .null, .int 0, .long 0])), (q7, eI 81 c7 (fun _ => 0)), (q13, .inr (0, [.ref q17_9, .ref q17_10, .ref q17_11, .ref q17_12, .ref q17_13, .int 0, .long 0, .long 0, .ref q17_3, .ref q17_14])), (q17_3, .inr (1, [.ref q17_15, .ref q17_16])), (q17_9, eI 81 c17_9 (fun _ => 0)), (q17_10, eI 81 c17_10 (fun _ => 0)), (q17_11, eI 81 c17_11 (fun _ => 0)), (q17_12, eI 81 c17_12 (fun _ => 0)), (q17_13, eL 81 c17_13 (fun _ => 0)), (q17_14, eI 81 c17_14 (fun _ => 0)), (q17_15, eI 81 c17_15 prI), (q17_16, eI 81 c17_16 prS), (q26, eI 81 c26 (fun _ => 0)), (q34, eL 32 c34 (fun _ => 0))] H := hP
  have hD : va_D A [(b, .inr (2, [.ref q7, .int 0, .int 0, .ref q13, .ref q26, .null, .int 0, .long 0])), (q7, eI 81 c7 (fun _ => 0)), (q13, .inr (0, [.ref q17_9, .ref q17_10, .ref q17_11, .ref q17_12, .ref q17_13, .int 0, .long 0, .long 0, .ref q17_3, .ref q17_14])), (q17_3, .inr (1, [.ref q17_15, .ref q17_16])), (q17_9, eI 81 c17_9 (fun _ => 0)), (q17_10, eI 81 c17_10 (fun _ => 0)), (q17_11, eI 81 c17_11 (fun _ => 0)), (q17_12, eI 81 c17_12 (fun _ => 0)), (q17_13, eL 81 c17_13 (fun _ => 0)), (q17_14, eI 81 c17_14 (fun _ => 0)), (q17_15, eI 81 c17_15 prI), (q17_16, eI 81 c17_16 prS), (q26, eI 81 c26 (fun _ => 0)), (q34, eL 32 c34 (fun _ => 0))] := hD
  refine va_putF (D := (dC, dI)) (ci := 2) (v := .ref q34) (ty := .array .long) (C := R_S) (T := F_S) (N := 8) hx hb hts (hin_of in_S) ft_S tk_S nm_S hown hK hP hD hS 0 rfl rfl 5 (by decide) (hw_of hts mw_147) (fun _ h9 => h9) rfl hin rfl (by decide +kernel) rfl rfl (Nat.le_of_ble_eq_true rfl) d_S_init_36 (fun H locs hP hD hS => ?_)
  have hP : va_P (dC, dI) vC [(b, .inr (2, [.ref q7, .int 0, .int 0, .ref q13, .ref q26, .ref q34, .int 0, .long 0])), (q7, eI 81 c7 (fun _ => 0)), (q13, .inr (0, [.ref q17_9, .ref q17_10, .ref q17_11, .ref q17_12, .ref q17_13, .int 0, .long 0, .long 0, .ref q17_3, .ref q17_14])), (q17_3, .inr (1, [.ref q17_15, .ref q17_16])), (q17_9, eI 81 c17_9 (fun _ => 0)), (q17_10, eI 81 c17_10 (fun _ => 0)), (q17_11, eI 81 c17_11 (fun _ => 0)), (q17_12, eI 81 c17_12 (fun _ => 0)), (q17_13, eL 81 c17_13 (fun _ => 0)), (q17_14, eI 81 c17_14 (fun _ => 0)), (q17_15, eI 81 c17_15 prI), (q17_16, eI 81 c17_16 prS), (q26, eI 81 c26 (fun _ => 0)), (q34, eL 32 c34 (fun _ => 0))] H := hP
  have hD : va_D A [(b, .inr (2, [.ref q7, .int 0, .int 0, .ref q13, .ref q26, .ref q34, .int 0, .long 0])), (q7, eI 81 c7 (fun _ => 0)), (q13, .inr (0, [.ref q17_9, .ref q17_10, .ref q17_11, .ref q17_12, .ref q17_13, .int 0, .long 0, .long 0, .ref q17_3, .ref q17_14])), (q17_3, .inr (1, [.ref q17_15, .ref q17_16])), (q17_9, eI 81 c17_9 (fun _ => 0)), (q17_10, eI 81 c17_10 (fun _ => 0)), (q17_11, eI 81 c17_11 (fun _ => 0)), (q17_12, eI 81 c17_12 (fun _ => 0)), (q17_13, eL 81 c17_13 (fun _ => 0)), (q17_14, eI 81 c17_14 (fun _ => 0)), (q17_15, eI 81 c17_15 prI), (q17_16, eI 81 c17_16 prS), (q26, eI 81 c26 (fun _ => 0)), (q34, eL 32 c34 (fun _ => 0))] := hD
  obtain ⟨ad, e_1, e_6, e_2, e_3, e_9, e_10, e_11, e_12, e_13, e_14, e_15, e_16, e_7, e_8⟩ : ∃ ad : Nat → Nat, ad 1 = b ∧ ad 6 = q7 ∧ ad 2 = q13 ∧ ad 3 = q17_3 ∧ ad 9 = q17_9 ∧ ad 10 = q17_10 ∧ ad 11 = q17_11 ∧ ad 12 = q17_12 ∧ ad 13 = q17_13 ∧ ad 14 = q17_14 ∧ ad 15 = q17_15 ∧ ad 16 = q17_16 ∧ ad 7 = q26 ∧ ad 8 = q34 := ⟨fun k => if k = 1 then b else if k = 6 then q7 else if k = 2 then q13 else if k = 3 then q17_3 else if k = 9 then q17_9 else if k = 10 then q17_10 else if k = 11 then q17_11 else if k = 12 then q17_12 else if k = 13 then q17_13 else if k = 14 then q17_14 else if k = 15 then q17_15 else if k = 16 then q17_16 else if k = 7 then q26 else q34, rfl, rfl, rfl, rfl, rfl, rfl, rfl, rfl, rfl, rfl, rfl, rfl, rfl, rfl⟩
  obtain ⟨ca, f_6, f_9, f_10, f_11, f_12, f_13, f_14, f_15, f_16, f_7, f_8⟩ : ∃ ca : Nat → ClassId, ca 6 = c7 ∧ ca 9 = c17_9 ∧ ca 10 = c17_10 ∧ ca 11 = c17_11 ∧ ca 12 = c17_12 ∧ ca 13 = c17_13 ∧ ca 14 = c17_14 ∧ ca 15 = c17_15 ∧ ca 16 = c17_16 ∧ ca 7 = c26 ∧ ca 8 = c34 := ⟨fun k => if k = 6 then c7 else if k = 9 then c17_9 else if k = 10 then c17_10 else if k = 11 then c17_11 else if k = 12 then c17_12 else if k = 13 then c17_13 else if k = 14 then c17_14 else if k = 15 then c17_15 else if k = 16 then c17_16 else if k = 7 then c26 else c34, rfl, rfl, rfl, rfl, rfl, rfl, rfl, rfl, rfl, rfl, rfl⟩
  subst e_1
  subst e_6
  subst e_2
  subst e_3
  subst e_9
  subst e_10
  subst e_11
  subst e_12
  subst e_13
  subst e_14
  subst e_15
  subst e_16
  subst e_7
  subst e_8
  subst f_6
  subst f_9
  subst f_10
  subst f_11
  subst f_12
  subst f_13
  subst f_14
  subst f_15
  subst f_16
  subst f_7
  subst f_8
  have hK0 : va_K (dC, dI) vC [(ca 6, .int), (ca 9, .int), (ca 10, .int), (ca 11, .int), (ca 12, .int), (ca 13, .long), (ca 14, .int), (ca 15, .int), (ca 16, .int), (ca 7, .int), (ca 8, .long)] s := hK
  have hK := hK0.sub (tys' := [(ca 6, .int), (ca 9, .int), (ca 10, .int), (ca 11, .int), (ca 12, .int), (ca 13, .long), (ca 14, .int), (ca 15, .int), (ca 16, .int), (ca 7, .int), (ca 8, .long)]) [0, 1, 2, 3, 4, 5, 6, 7, 8, 9, 10] rfl
  have hP : va_P (dC, dI) vC [(ad 1, eS ad 0 0 0 0), (ad 6, eI 81 (ca 6) (fun _ => 0)), (ad 2, eT ad 0 0 0), (ad 3, eP ad), (ad 9, eI 81 (ca 9) (fun _ => 0)), (ad 10, eI 81 (ca 10) (fun _ => 0)), (ad 11, eI 81 (ca 11) (fun _ => 0)), (ad 12, eI 81 (ca 12) (fun _ => 0)), (ad 13, eL 81 (ca 13) (fun _ => 0)), (ad 14, eI 81 (ca 14) (fun _ => 0)), (ad 15, eI 81 (ca 15) prI), (ad 16, eI 81 (ca 16) prS), (ad 7, eI 81 (ca 7) (fun _ => 0)), (ad 8, eL 32 (ca 8) (fun _ => 0))] H := hP
  have hD : va_D A [(ad 1, eS ad 0 0 0 0), (ad 6, eI 81 (ca 6) (fun _ => 0)), (ad 2, eT ad 0 0 0), (ad 3, eP ad), (ad 9, eI 81 (ca 9) (fun _ => 0)), (ad 10, eI 81 (ca 10) (fun _ => 0)), (ad 11, eI 81 (ca 11) (fun _ => 0)), (ad 12, eI 81 (ca 12) (fun _ => 0)), (ad 13, eL 81 (ca 13) (fun _ => 0)), (ad 14, eI 81 (ca 14) (fun _ => 0)), (ad 15, eI 81 (ca 15) prI), (ad 16, eI 81 (ca 16) prS), (ad 7, eI 81 (ca 7) (fun _ => 0)), (ad 8, eL 32 (ca 8) (fun _ => 0))] := hD
  refine W.widen (k := 13) (n := 854) (by omega) (by omega) ?_
  exact W.vret hx hb hr (fun t ht hW => kw_endn (tysc := fun u => [(u.2 6, .int), (u.2 7, .int), (u.2 8, .long), (u.2 9, .int), (u.2 10, .int), (u.2 11, .int), (u.2 12, .int), (u.2 13, .long), (u.2 14, .int), (u.2 15, .int), (u.2 16, .int)]) (post := fun u => u.1 1 = ad 1) (w := fun u => [(u.1 1, eS u.1 0 0 0 0), (u.1 2, eT u.1 0 0 0), (u.1 3, eP u.1), (u.1 6, eI 81 (u.2 6) (fun _ => 0)), (u.1 7, eI 81 (u.2 7) (fun _ => 0)), (u.1 8, eL 32 (u.2 8) (fun _ => 0)), (u.1 9, eI 81 (u.2 9) (fun _ => 0)), (u.1 10, eI 81 (u.2 10) (fun _ => 0)), (u.1 11, eI 81 (u.2 11) (fun _ => 0)), (u.1 12, eI 81 (u.2 12) (fun _ => 0)), (u.1 13, eL 81 (u.2 13) (fun _ => 0)), (u.1 14, eI 81 (u.2 14) (fun _ => 0)), (u.1 15, eI 81 (u.2 15) prI), (u.1 16, eI 81 (u.2 16) prS)]) (ad, ca) rfl hP hD (hK0.sub (tys' := [(ca 6, .int), (ca 7, .int), (ca 8, .long), (ca 9, .int), (ca 10, .int), (ca 11, .int), (ca 12, .int), (ca 13, .long), (ca 14, .int), (ca 15, .int), (ca 16, .int)]) [0, 9, 10, 1, 2, 3, 4, 5, 6, 7, 8] rfl) hS [0, 2, 3, 1, 12, 13, 4, 5, 6, 7, 8, 9, 10, 11] rfl (by decide) rfl ht hW.alike) hS.2.2 d_S_init_39
