set_option maxHeartbeats 4000000 in
set_option maxRecDepth 100000 in
theorem c_findLeast (l : Launch) (dC : Nat → ClassId) (dI : Nat → Nat → Nat) (ad : Nat → Nat) (ca : Nat → ClassId) (pk : Int32) (pp : Int32) (bw : Int32) (bs : Int64) (cn : Nat) (hc : cn ≤ 63) (due : Int64) (lon : Int64) (pic : Nat → Int32) (wei : Nat → Int32) (ser : Nat → Int64) (siz : Nat → Int32) (pla : Nat → Int64) (sz : Nat) : Met l y_S_findLeast w_S_findLeast ({ frames := 36, cells := 0, slots := 0, locals := 1300 }) (kw_P [.ref (ad 1)] sz (dC, dI) vC [(ad 1, eS ad pk pp bw bs), (ad 2, eT ad (nI cn) due lon), (ad 6, eI 81 (ca 6) pic), (ad 7, eI 81 (ca 7) wei), (ad 8, eL 32 (ca 8) ser), (ad 11, eI 81 (ca 11) siz), (ad 13, eL 81 (ca 13) pla)] [(ca 6, .int), (ca 7, .int), (ca 8, .long), (ca 11, .int), (ca 13, .long)]) (kw_Qv (dC, dI) vC [(ca 6, .int), (ca 7, .int), (ca 8, .long), (ca 11, .int), (ca 13, .long)] (va_A [(ad 1, eS ad pk pp bw bs), (ad 2, eT ad (nI cn) due lon), (ad 6, eI 81 (ca 6) pic), (ad 7, eI 81 (ca 7) wei), (ad 8, eL 32 (ca 8) ser), (ad 11, eI 81 (ca 11) siz), (ad 13, eL 81 (ca 13) pla)] sz) [(ad 1, eS ad (nI ((fo (mc_lbf (m_ext m_pop cn pla (fo (mc_wef siz) cn wei) (fo (mc_sef pla cn) 32 ser) 32 due (zo cn - 1) 0 0 (1000000, 0)).2 siz) cn (pic, 0, 0)).2.1)) ((fo (mc_lbf (m_ext m_pop cn pla (fo (mc_wef siz) cn wei) (fo (mc_sef pla cn) 32 ser) 32 due (zo cn - 1) 0 0 (1000000, 0)).2 siz) cn (pic, 0, 0)).2.2) ((m_ext m_pop cn pla (fo (mc_wef siz) cn wei) (fo (mc_sef pla cn) 32 ser) 32 due (zo cn - 1) 0 0 (1000000, 0)).1) ((m_ext m_pop cn pla (fo (mc_wef siz) cn wei) (fo (mc_sef pla cn) 32 ser) 32 due (zo cn - 1) 0 0 (1000000, 0)).2)), (ad 2, eT ad (nI cn) due lon), (ad 6, eI 81 (ca 6) ((fo (mc_lbf (m_ext m_pop cn pla (fo (mc_wef siz) cn wei) (fo (mc_sef pla cn) 32 ser) 32 due (zo cn - 1) 0 0 (1000000, 0)).2 siz) cn (pic, 0, 0)).1)), (ad 7, eI 81 (ca 7) (fo (mc_wef siz) cn wei)), (ad 8, eL 32 (ca 8) (fo (mc_sef pla cn) 32 ser)), (ad 11, eI 81 (ca 11) siz), (ad 13, eL 81 (ca 13) pla)]) 0 0 (va_A [(ad 1, eS ad pk pp bw bs), (ad 2, eT ad (nI cn) due lon), (ad 6, eI 81 (ca 6) pic), (ad 7, eI 81 (ca 7) wei), (ad 8, eL 32 (ca 8) ser), (ad 11, eI 81 (ca 11) siz), (ad 13, eL 81 (ca 13) pla)] sz) := by
  refine Met.ofW (cc := b_S_findLeast) (maxL := 2) (ret := none) (by decide) rfl ?_
  intro p e s m args below meth c s₁ B hml hv
  obtain ⟨rfl, hsz, hP, hK, hD0⟩ := hv
  have hx := B.exec
  have hb := B.bytes
  have hr := B.returns
  have hts := atoms_spec (ws := w_S_findLeast) B.pre
  have hlocks := B.notSynchronized
  have hown : s.vm.findClass R_S = some m.cls := findClass_of_methodNamed B.named
  subst hsz
  have hD := hD0.self (sz := s.heap.size)
  generalize hAe : va_A [(ad 1, eS ad pk pp bw bs), (ad 2, eT ad (nI cn) due lon), (ad 6, eI 81 (ca 6) pic), (ad 7, eI 81 (ca 7) wei), (ad 8, eL 32 (ca 8) ser), (ad 11, eI 81 (ca 11) siz), (ad 13, eL 81 (ca 13) pla)] s.heap.size = A at hD ⊢
  have hA : ∀ q : Nat, s.heap.size ≤ q → A q := fun q h => by rw [← hAe]; exact Or.inr h
  have hS : va_S A s.heap s.heap [] := va_S.rf
  have hP : va_P (dC, dI) vC [(ad 1, eS ad pk pp bw bs), (ad 2, eT ad (nI cn) due lon), (ad 6, eI 81 (ca 6) pic), (ad 7, eI 81 (ca 7) wei), (ad 8, eL 32 (ca 8) ser), (ad 11, eI 81 (ca 11) siz), (ad 13, eL 81 (ca 13) pla)] s.heap := hP
  have hl := lv_entry ([.ref (ad 1)]) (n := 2) (Nat.le_of_ble_eq_true rfl)
  rw [lg_entry_eq]
  generalize (lg_sl ([.ref (ad 1)]) ++ List.replicate (2 - (lg_sl ([.ref (ad 1)])).length) Slot.unset).toArray = ls at hl ⊢
  have hl : lv_has ls 2 [(0, .ref (ad 1))] := hl
  refine lv_iconst (v := 0) hx hb d_S_findLeast_0 (by decide) ?_
  refine lv_istore_n (lv' := [(1, .int 0), (0, .ref (ad 1))]) hx hb d_S_findLeast_1 rfl hl (by decide) rfl (fun ls hl => ?_)
  refine k_loopH (fun iv H locs ls => lv_has ls 2 [(0, .ref (ad 1)), (1, .int (nI iv))] ∧ va_P (dC, dI) vC [(ad 1, eS ad pk pp bw bs), (ad 2, eT ad (nI cn) due lon), (ad 6, eI 81 (ca 6) pic), (ad 7, eI 81 (ca 7) (fo (mc_wef siz) iv wei)), (ad 8, eL 32 (ca 8) ser), (ad 11, eI 81 (ca 11) siz), (ad 13, eL 81 (ca 13) pla)] H ∧ va_D A [(ad 1, eS ad pk pp bw bs), (ad 2, eT ad (nI cn) due lon), (ad 6, eI 81 (ca 6) pic), (ad 7, eI 81 (ca 7) (fo (mc_wef siz) iv wei)), (ad 8, eL 32 (ca 8) ser), (ad 11, eI 81 (ca 11) siz), (ad 13, eL 81 (ca 13) pla)] ∧ va_S A s.heap H locs ∧ True) cn ?_ 0 _ _ _ (Nat.zero_le _) ?_
  · intro iv H locs ls hiiv hI ihiv
    obtain ⟨hl, hP, hD, hS, -⟩ := hI
    refine lv_iload_n hx hb d_S_findLeast_2 rfl (lv_at hl 1 rfl) ?_
    refine lv_aload_n hx hb d_S_findLeast_3 rfl (lv_at hl 0 rfl) ?_
    refine va_get (D := (dC, dI)) (ci := 2) (v := .ref (ad 2)) (C := R_S) (T := F_S) (N := 8) hx hb hts (hin_of in_S) hown hK hP 0 rfl rfl 3 (by decide) (hw_of hts mw_144) (fun _ h9 => h9) rfl d_S_findLeast_4 ?_
    refine va_get (D := (dC, dI)) (ci := 0) (v := .int (nI cn)) (C := R_T) (T := F_T) (N := 10) hx hb hts (hin_of in_T) hown hK hP 1 rfl rfl 5 (by decide) (hw_of hts mw_109) (fun _ h9 => h9) rfl d_S_findLeast_7 ?_
    refine k_ge (a := iv) (b := cn) (tgt := 38) hx hb rfl rfl (by omega) (by omega) d_S_findLeast_10 (by decide) (fun c_10 => ?_) (fun c_10 => ?_)
    · obtain rfl : cn = iv := by omega
      refine lv_iconst (v := 0) hx hb d_S_findLeast_38 (by decide) ?_
      refine lv_istore_n (lv' := [(1, .int 0), (0, .ref (ad 1))]) hx hb d_S_findLeast_39 rfl hl (by decide) rfl (fun ls hl => ?_)
      refine k_loopH (fun qv H locs ls => lv_has ls 2 [(0, .ref (ad 1)), (1, .int (nI qv))] ∧ va_P (dC, dI) vC [(ad 1, eS ad pk pp bw bs), (ad 2, eT ad (nI cn) due lon), (ad 6, eI 81 (ca 6) pic), (ad 7, eI 81 (ca 7) (fo (mc_wef siz) cn wei)), (ad 8, eL 32 (ca 8) (fo (mc_sef pla cn) qv ser)), (ad 11, eI 81 (ca 11) siz), (ad 13, eL 81 (ca 13) pla)] H ∧ va_D A [(ad 1, eS ad pk pp bw bs), (ad 2, eT ad (nI cn) due lon), (ad 6, eI 81 (ca 6) pic), (ad 7, eI 81 (ca 7) (fo (mc_wef siz) cn wei)), (ad 8, eL 32 (ca 8) (fo (mc_sef pla cn) qv ser)), (ad 11, eI 81 (ca 11) siz), (ad 13, eL 81 (ca 13) pla)] ∧ va_S A s.heap H locs ∧ True) 32 ?_ 0 _ _ _ (Nat.zero_le _) ?_
      · intro qv H locs ls hiqv hI ihqv
        obtain ⟨hl, hP, hD, hS, -⟩ := hI
        refine lv_iload_n hx hb d_S_findLeast_40 rfl (lv_at hl 1 rfl) ?_
        refine lv_bipush (v := 32) hx hb d_S_findLeast_41 (by decide) ?_
        refine k_ge (a := qv) (b := 32) (tgt := 63) hx hb rfl rfl (by omega) (by omega) d_S_findLeast_43 (by decide) (fun c_43 => ?_) (fun c_43 => ?_)
        · obtain rfl : 32 = qv := by omega
          refine lv_aload_n hx hb d_S_findLeast_63 rfl (lv_at hl 0 rfl) ?_
          refine lv_ldc hx hb hown (hw_of hts mw_259) d_S_findLeast_64 ?_
          refine va_put (D := (dC, dI)) (ci := 2) (v := .int 1000000) (ty := .int) (C := R_S) (T := F_S) (N := 8) hx hb hts (hin_of in_S) ft_S tk_S nm_S hown hK hP hD hS 0 rfl rfl 6 (by decide) (hw_of hts mw_148) (fun _ h9 => h9) rfl (by decide +kernel) rfl rfl (Nat.le_of_ble_eq_true rfl) d_S_findLeast_66 (fun H locs hP hD hS => ?_)
          have hP : va_P (dC, dI) vC [(ad 1, eS ad pk pp 1000000 bs), (ad 2, eT ad (nI cn) due lon), (ad 6, eI 81 (ca 6) pic), (ad 7, eI 81 (ca 7) (fo (mc_wef siz) cn wei)), (ad 8, eL 32 (ca 8) (fo (mc_sef pla cn) 32 ser)), (ad 11, eI 81 (ca 11) siz), (ad 13, eL 81 (ca 13) pla)] H := hP
          have hD : va_D A [(ad 1, eS ad pk pp 1000000 bs), (ad 2, eT ad (nI cn) due lon), (ad 6, eI 81 (ca 6) pic), (ad 7, eI 81 (ca 7) (fo (mc_wef siz) cn wei)), (ad 8, eL 32 (ca 8) (fo (mc_sef pla cn) 32 ser)), (ad 11, eI 81 (ca 11) siz), (ad 13, eL 81 (ca 13) pla)] := hD
          refine lv_aload_n hx hb d_S_findLeast_69 rfl (lv_at hl 0 rfl) ?_
          refine lv_lconst (v := 0) hx hb d_S_findLeast_70 rfl ?_
          refine va_put (D := (dC, dI)) (ci := 2) (v := .long 0) (ty := .long) (C := R_S) (T := F_S) (N := 8) hx hb hts (hin_of in_S) ft_S tk_S nm_S hown hK hP hD hS 0 rfl rfl 7 (by decide) (hw_of hts mw_149) (fun _ h9 => h9) rfl (by decide +kernel) rfl rfl (Nat.le_of_ble_eq_true rfl) d_S_findLeast_71 (fun H locs hP hD hS => ?_)
          have hP : va_P (dC, dI) vC [(ad 1, eS ad pk pp 1000000 0), (ad 2, eT ad (nI cn) due lon), (ad 6, eI 81 (ca 6) pic), (ad 7, eI 81 (ca 7) (fo (mc_wef siz) cn wei)), (ad 8, eL 32 (ca 8) (fo (mc_sef pla cn) 32 ser)), (ad 11, eI 81 (ca 11) siz), (ad 13, eL 81 (ca 13) pla)] H := hP
          have hD : va_D A [(ad 1, eS ad pk pp 1000000 0), (ad 2, eT ad (nI cn) due lon), (ad 6, eI 81 (ca 6) pic), (ad 7, eI 81 (ca 7) (fo (mc_wef siz) cn wei)), (ad 8, eL 32 (ca 8) (fo (mc_sef pla cn) 32 ser)), (ad 11, eI 81 (ca 11) siz), (ad 13, eL 81 (ca 13) pla)] := hD
          refine lv_aload_n hx hb d_S_findLeast_74 rfl (lv_at hl 0 rfl) ?_
          refine lv_iconst (v := 0) hx hb d_S_findLeast_75 (by decide) ?_
          refine lv_aload_n hx hb d_S_findLeast_76 rfl (lv_at hl 0 rfl) ?_
          refine va_get (D := (dC, dI)) (ci := 2) (v := .ref (ad 2)) (C := R_S) (T := F_S) (N := 8) hx hb hts (hin_of in_S) hown hK hP 0 rfl rfl 3 (by decide) (hw_of hts mw_144) (fun _ h9 => h9) rfl d_S_findLeast_77 ?_
          refine va_get (D := (dC, dI)) (ci := 0) (v := .long due) (C := R_T) (T := F_T) (N := 10) hx hb hts (hin_of in_T) hown hK hP 1 rfl rfl 6 (by decide) (hw_of hts mw_113) (fun _ h9 => h9) rfl d_S_findLeast_80 ?_
          refine lv_lconst (v := 1) hx hb d_S_findLeast_83 rfl ?_
          refine lv_aload_n hx hb d_S_findLeast_84 rfl (lv_at hl 0 rfl) ?_
          refine va_get (D := (dC, dI)) (ci := 2) (v := .ref (ad 2)) (C := R_S) (T := F_S) (N := 8) hx hb hts (hin_of in_S) hown hK hP 0 rfl rfl 3 (by decide) (hw_of hts mw_144) (fun _ h9 => h9) rfl d_S_findLeast_85 ?_
          refine va_get (D := (dC, dI)) (ci := 0) (v := .int (nI cn)) (C := R_T) (T := F_T) (N := 10) hx hb hts (hin_of in_T) hown hK hP 1 rfl rfl 5 (by decide) (hw_of hts mw_109) (fun _ h9 => h9) rfl d_S_findLeast_88 ?_
          refine lv_lshl (v := zo cn) hx hb d_S_findLeast_91 rfl ?_
          refine lv_lconst (v := 1) hx hb d_S_findLeast_92 rfl ?_
          refine lv_lsub hx hb d_S_findLeast_93 ?_
          refine lv_iconst (v := 0) hx hb d_S_findLeast_94 (by decide) ?_
          refine lv_lconst (v := 0) hx hb d_S_findLeast_95 rfl ?_
          have hPc := hP.sub (ws' := [(ad 1, eS ad pk pp 1000000 0), (ad 2, eT ad (nI cn) due lon), (ad 7, eI 81 (ca 7) (fo (mc_wef siz) cn wei)), (ad 8, eL 32 (ca 8) (fo (mc_sef pla cn) 32 ser)), (ad 13, eL 81 (ca 13) pla)]) [0, 1, 3, 4, 6] rfl
          have hDc := hD.sub (ws' := [(ad 1, eS ad pk pp 1000000 0), (ad 2, eT ad (nI cn) due lon), (ad 7, eI 81 (ca 7) (fo (mc_wef siz) cn wei)), (ad 8, eL 32 (ca 8) (fo (mc_sef pla cn) 32 ser)), (ad 13, eL 81 (ca 13) pla)]) [0, 1, 3, 4, 6] (by decide) rfl
          have hKc := hK.sub (tys' := [(ca 7, .int), (ca 8, .long), (ca 13, .long)]) [1, 2, 4] rfl
          refine kw_callv (wr := [(ad 6, eI 81 (ca 6) pic), (ad 11, eI 81 (ca 11) siz)]) (wf := [(ad 1, eS ad pk pp ((m_ext m_pop cn pla (fo (mc_wef siz) cn wei) (fo (mc_sef pla cn) 32 ser) 32 due ((zo cn) - 1) 0 0 (1000000, 0)).1) ((m_ext m_pop cn pla (fo (mc_wef siz) cn wei) (fo (mc_sef pla cn) 32 ser) 32 due ((zo cn) - 1) 0 0 (1000000, 0)).2)), (ad 2, eT ad (nI cn) due lon), (ad 7, eI 81 (ca 7) (fo (mc_wef siz) cn wei)), (ad 8, eL 32 (ca 8) (fo (mc_sef pla cn) 32 ser)), (ad 13, eL 81 (ca 13) pla)]) (va_runV (As := [.int 0, .long due, .long ((zo cn) - 1), .int 0, .long 0]) (rest := []) ⟨hx, hb, hml, hown, hts⟩ (c_extend l dC dI ad ca 32 pk pp 1000000 0 cn hc due lon (fo (mc_wef siz) cn wei) (fo (mc_sef pla cn) 32 ser) pla 0 due ((zo cn) - 1) 0 0 _ rfl) (cwV 5 hts (gd_V mw_260 mw_262 mw_10 mw_41 mw_263) rfl rfl rfl (by decide +kernel) ⟨Nat.le_of_ble_eq_true rfl, Nat.le_of_ble_eq_true rfl⟩) (kw_V (q0 := 0) (ci := 2) hKc hPc hDc rfl rfl) rfl rfl hl.1 rfl (lv_room (Nat.le_of_ble_eq_true rfl)) d_S_findLeast_96 ⟨Nat.zero_le _, Nat.zero_le _⟩) hP hD hS hA [0, 1, 3, 4, 6] [2, 5] rfl rfl (by decide) (by decide) (fun H locs hP hD hS => ?_)
          have hP : va_P (dC, dI) vC [(ad 6, eI 81 (ca 6) pic), (ad 11, eI 81 (ca 11) siz), (ad 1, eS ad pk pp ((m_ext m_pop cn pla (fo (mc_wef siz) cn wei) (fo (mc_sef pla cn) 32 ser) 32 due ((zo cn) - 1) 0 0 (1000000, 0)).1) ((m_ext m_pop cn pla (fo (mc_wef siz) cn wei) (fo (mc_sef pla cn) 32 ser) 32 due ((zo cn) - 1) 0 0 (1000000, 0)).2)), (ad 2, eT ad (nI cn) due lon), (ad 7, eI 81 (ca 7) (fo (mc_wef siz) cn wei)), (ad 8, eL 32 (ca 8) (fo (mc_sef pla cn) 32 ser)), (ad 13, eL 81 (ca 13) pla)] H := hP
          have hD : va_D A [(ad 6, eI 81 (ca 6) pic), (ad 11, eI 81 (ca 11) siz), (ad 1, eS ad pk pp ((m_ext m_pop cn pla (fo (mc_wef siz) cn wei) (fo (mc_sef pla cn) 32 ser) 32 due ((zo cn) - 1) 0 0 (1000000, 0)).1) ((m_ext m_pop cn pla (fo (mc_wef siz) cn wei) (fo (mc_sef pla cn) 32 ser) 32 due ((zo cn) - 1) 0 0 (1000000, 0)).2)), (ad 2, eT ad (nI cn) due lon), (ad 7, eI 81 (ca 7) (fo (mc_wef siz) cn wei)), (ad 8, eL 32 (ca 8) (fo (mc_sef pla cn) 32 ser)), (ad 13, eL 81 (ca 13) pla)] := hD
          refine lv_aload_n hx hb d_S_findLeast_99 rfl (lv_at hl 0 rfl) ?_
          have hPc := hP.sub (ws' := [(ad 1, eS ad pk pp ((m_ext m_pop cn pla (fo (mc_wef siz) cn wei) (fo (mc_sef pla cn) 32 ser) 32 due ((zo cn) - 1) 0 0 (1000000, 0)).1) ((m_ext m_pop cn pla (fo (mc_wef siz) cn wei) (fo (mc_sef pla cn) 32 ser) 32 due ((zo cn) - 1) 0 0 (1000000, 0)).2)), (ad 2, eT ad (nI cn) due lon), (ad 6, eI 81 (ca 6) pic), (ad 11, eI 81 (ca 11) siz)]) [2, 3, 0, 1] rfl
          have hDc := hD.sub (ws' := [(ad 1, eS ad pk pp ((m_ext m_pop cn pla (fo (mc_wef siz) cn wei) (fo (mc_sef pla cn) 32 ser) 32 due ((zo cn) - 1) 0 0 (1000000, 0)).1) ((m_ext m_pop cn pla (fo (mc_wef siz) cn wei) (fo (mc_sef pla cn) 32 ser) 32 due ((zo cn) - 1) 0 0 (1000000, 0)).2)), (ad 2, eT ad (nI cn) due lon), (ad 6, eI 81 (ca 6) pic), (ad 11, eI 81 (ca 11) siz)]) [2, 3, 0, 1] (by decide) rfl
          have hKc := hK.sub (tys' := [(ca 6, .int), (ca 11, .int)]) [0, 3] rfl
          refine kw_callv (wr := [(ad 7, eI 81 (ca 7) (fo (mc_wef siz) cn wei)), (ad 8, eL 32 (ca 8) (fo (mc_sef pla cn) 32 ser)), (ad 13, eL 81 (ca 13) pla)]) (wf := [(ad 1, eS ad (nI ((fo (mc_lbf ((m_ext m_pop cn pla (fo (mc_wef siz) cn wei) (fo (mc_sef pla cn) 32 ser) 32 due ((zo cn) - 1) 0 0 (1000000, 0)).2) siz) cn (pic, 0, 0)).2.1)) ((fo (mc_lbf ((m_ext m_pop cn pla (fo (mc_wef siz) cn wei) (fo (mc_sef pla cn) 32 ser) 32 due ((zo cn) - 1) 0 0 (1000000, 0)).2) siz) cn (pic, 0, 0)).2.2) ((m_ext m_pop cn pla (fo (mc_wef siz) cn wei) (fo (mc_sef pla cn) 32 ser) 32 due ((zo cn) - 1) 0 0 (1000000, 0)).1) ((m_ext m_pop cn pla (fo (mc_wef siz) cn wei) (fo (mc_sef pla cn) 32 ser) 32 due ((zo cn) - 1) 0 0 (1000000, 0)).2)), (ad 2, eT ad (nI cn) due lon), (ad 6, eI 81 (ca 6) ((fo (mc_lbf ((m_ext m_pop cn pla (fo (mc_wef siz) cn wei) (fo (mc_sef pla cn) 32 ser) 32 due ((zo cn) - 1) 0 0 (1000000, 0)).2) siz) cn (pic, 0, 0)).1)), (ad 11, eI 81 (ca 11) siz)]) (va_runV (As := []) (rest := []) ⟨hx, hb, hml, hown, hts⟩ (c_listBest l dC dI ad ca pk pp ((m_ext m_pop cn pla (fo (mc_wef siz) cn wei) (fo (mc_sef pla cn) 32 ser) 32 due ((zo cn) - 1) 0 0 (1000000, 0)).1) ((m_ext m_pop cn pla (fo (mc_wef siz) cn wei) (fo (mc_sef pla cn) 32 ser) 32 due ((zo cn) - 1) 0 0 (1000000, 0)).2) cn hc due lon pic siz _) (cwV 0 hts (gd_V mw_302 mw_304 mw_18 mw_41 mw_305) rfl rfl rfl (by decide +kernel) ⟨Nat.le_of_ble_eq_true rfl, Nat.le_of_ble_eq_true rfl⟩) (kw_V (q0 := 0) (ci := 2) hKc hPc hDc rfl rfl) rfl rfl hl.1 rfl (lv_room (Nat.le_of_ble_eq_true rfl)) d_S_findLeast_100 ⟨Nat.zero_le _, Nat.zero_le _⟩) hP hD hS hA [2, 3, 0, 1] [4, 5, 6] rfl rfl (by decide) (by decide) (fun H locs hP hD hS => ?_)
          have hP : va_P (dC, dI) vC [(ad 7, eI 81 (ca 7) (fo (mc_wef siz) cn wei)), (ad 8, eL 32 (ca 8) (fo (mc_sef pla cn) 32 ser)), (ad 13, eL 81 (ca 13) pla), (ad 1, eS ad (nI ((fo (mc_lbf ((m_ext m_pop cn pla (fo (mc_wef siz) cn wei) (fo (mc_sef pla cn) 32 ser) 32 due ((zo cn) - 1) 0 0 (1000000, 0)).2) siz) cn (pic, 0, 0)).2.1)) ((fo (mc_lbf ((m_ext m_pop cn pla (fo (mc_wef siz) cn wei) (fo (mc_sef pla cn) 32 ser) 32 due ((zo cn) - 1) 0 0 (1000000, 0)).2) siz) cn (pic, 0, 0)).2.2) ((m_ext m_pop cn pla (fo (mc_wef siz) cn wei) (fo (mc_sef pla cn) 32 ser) 32 due ((zo cn) - 1) 0 0 (1000000, 0)).1) ((m_ext m_pop cn pla (fo (mc_wef siz) cn wei) (fo (mc_sef pla cn) 32 ser) 32 due ((zo cn) - 1) 0 0 (1000000, 0)).2)), (ad 2, eT ad (nI cn) due lon), (ad 6, eI 81 (ca 6) ((fo (mc_lbf ((m_ext m_pop cn pla (fo (mc_wef siz) cn wei) (fo (mc_sef pla cn) 32 ser) 32 due ((zo cn) - 1) 0 0 (1000000, 0)).2) siz) cn (pic, 0, 0)).1)), (ad 11, eI 81 (ca 11) siz)] H := hP
          have hD : va_D A [(ad 7, eI 81 (ca 7) (fo (mc_wef siz) cn wei)), (ad 8, eL 32 (ca 8) (fo (mc_sef pla cn) 32 ser)), (ad 13, eL 81 (ca 13) pla), (ad 1, eS ad (nI ((fo (mc_lbf ((m_ext m_pop cn pla (fo (mc_wef siz) cn wei) (fo (mc_sef pla cn) 32 ser) 32 due ((zo cn) - 1) 0 0 (1000000, 0)).2) siz) cn (pic, 0, 0)).2.1)) ((fo (mc_lbf ((m_ext m_pop cn pla (fo (mc_wef siz) cn wei) (fo (mc_sef pla cn) 32 ser) 32 due ((zo cn) - 1) 0 0 (1000000, 0)).2) siz) cn (pic, 0, 0)).2.2) ((m_ext m_pop cn pla (fo (mc_wef siz) cn wei) (fo (mc_sef pla cn) 32 ser) 32 due ((zo cn) - 1) 0 0 (1000000, 0)).1) ((m_ext m_pop cn pla (fo (mc_wef siz) cn wei) (fo (mc_sef pla cn) 32 ser) 32 due ((zo cn) - 1) 0 0 (1000000, 0)).2)), (ad 2, eT ad (nI cn) due lon), (ad 6, eI 81 (ca 6) ((fo (mc_lbf ((m_ext m_pop cn pla (fo (mc_wef siz) cn wei) (fo (mc_sef pla cn) 32 ser) 32 due ((zo cn) - 1) 0 0 (1000000, 0)).2) siz) cn (pic, 0, 0)).1)), (ad 11, eI 81 (ca 11) siz)] := hD
          have e_1 : nI ((fo (mc_lbf (m_ext m_pop cn pla (fo (mc_wef siz) cn wei) (fo (mc_sef pla cn) 32 ser) 32 due (zo cn - 1) 0 0 (1000000, 0)).2 siz) cn (pic, 0, 0)).2.1) = nI ((fo (mc_lbf ((m_ext m_pop cn pla (fo (mc_wef siz) cn wei) (fo (mc_sef pla cn) 32 ser) 32 due ((zo cn) - 1) 0 0 (1000000, 0)).2) siz) cn (pic, 0, 0)).2.1) := rfl
          have e_2 : (fo (mc_lbf (m_ext m_pop cn pla (fo (mc_wef siz) cn wei) (fo (mc_sef pla cn) 32 ser) 32 due (zo cn - 1) 0 0 (1000000, 0)).2 siz) cn (pic, 0, 0)).2.2 = (fo (mc_lbf ((m_ext m_pop cn pla (fo (mc_wef siz) cn wei) (fo (mc_sef pla cn) 32 ser) 32 due ((zo cn) - 1) 0 0 (1000000, 0)).2) siz) cn (pic, 0, 0)).2.2 := rfl
          have e_3 : (m_ext m_pop cn pla (fo (mc_wef siz) cn wei) (fo (mc_sef pla cn) 32 ser) 32 due (zo cn - 1) 0 0 (1000000, 0)).1 = (m_ext m_pop cn pla (fo (mc_wef siz) cn wei) (fo (mc_sef pla cn) 32 ser) 32 due ((zo cn) - 1) 0 0 (1000000, 0)).1 := rfl
          have e_4 : (m_ext m_pop cn pla (fo (mc_wef siz) cn wei) (fo (mc_sef pla cn) 32 ser) 32 due (zo cn - 1) 0 0 (1000000, 0)).2 = (m_ext m_pop cn pla (fo (mc_wef siz) cn wei) (fo (mc_sef pla cn) 32 ser) 32 due ((zo cn) - 1) 0 0 (1000000, 0)).2 := rfl
          have e_5 : (fo (mc_lbf (m_ext m_pop cn pla (fo (mc_wef siz) cn wei) (fo (mc_sef pla cn) 32 ser) 32 due (zo cn - 1) 0 0 (1000000, 0)).2 siz) cn (pic, 0, 0)).1 = (fo (mc_lbf ((m_ext m_pop cn pla (fo (mc_wef siz) cn wei) (fo (mc_sef pla cn) 32 ser) 32 due ((zo cn) - 1) 0 0 (1000000, 0)).2) siz) cn (pic, 0, 0)).1 := rfl
          exact W.vret hx hb hr (fun t ht hW => by (try rw [e_1]); (try rw [e_2]); (try rw [e_3]); (try rw [e_4]); (try rw [e_5]); exact kw_endv hP hD hK hS [3, 4, 5, 0, 1, 6, 2] rfl (by decide) rfl ht hW.alike) hS.2.2 d_S_findLeast_103
        · refine lv_aload_n hx hb d_S_findLeast_46 rfl (lv_at hl 0 rfl) ?_
          refine va_get (D := (dC, dI)) (ci := 2) (v := .ref (ad 8)) (C := R_S) (T := F_S) (N := 8) hx hb hts (hin_of in_S) hown hK hP 0 rfl rfl 5 (by decide) (hw_of hts mw_147) (fun _ h9 => h9) rfl d_S_findLeast_47 ?_
          refine lv_iload_n hx hb d_S_findLeast_50 rfl (lv_at hl 1 rfl) ?_
          refine lv_aload_n hx hb d_S_findLeast_51 rfl (lv_at hl 0 rfl) ?_
          refine lv_iload_n hx hb d_S_findLeast_52 rfl (lv_at hl 1 rfl) ?_
          have hPc := hP.sub (ws' := [(ad 1, eS ad pk pp bw bs), (ad 2, eT ad (nI cn) due lon), (ad 13, eL 81 (ca 13) pla)]) [0, 1, 6] rfl
          have hKc := hK.sub (tys' := [(ca 13, .long)]) [4] rfl
          refine vp_callSl (W.runV (As := [.int (nI qv)]) (rest := [.int (nI qv), .ref (ad 8)]) ⟨hx, hb, hml, hown, hts⟩ (c_serversOf l dC dI ad ca pk pp bw bs cn hc due lon pla qv (by omega)) (cwV 1 hts (gd_V mw_255 mw_257 mw_9 mw_41 mw_258) rfl rfl rfl (by decide +kernel) ⟨Nat.le_of_ble_eq_true rfl, Nat.le_of_ble_eq_true rfl⟩) (kr_V (q0 := 0) (ci := 2) hKc hPc rfl rfl) rfl rfl hl.1 rfl (lv_room (Nat.le_of_ble_eq_true rfl)) d_S_findLeast_53 ⟨Nat.zero_le _, Nat.zero_le _⟩) (fun r hq => ?_)
          subst hq
          refine k_last (k := qv) hx hb hK hP hD hS 4 2 rfl rfl rfl (by omega) (by decide) d_S_findLeast_56 (fun H locs hP hD hS => ?_)
          have hP : va_P (dC, dI) vC [(ad 1, eS ad pk pp bw bs), (ad 2, eT ad (nI cn) due lon), (ad 6, eI 81 (ca 6) pic), (ad 7, eI 81 (ca 7) (fo (mc_wef siz) cn wei)), (ad 8, eL 32 (ca 8) (vp_updL (fo (mc_sef pla cn) qv ser) qv (fo (mc_svf pla qv) cn 0))), (ad 11, eI 81 (ca 11) siz), (ad 13, eL 81 (ca 13) pla)] H := hP
          have hD : va_D A [(ad 1, eS ad pk pp bw bs), (ad 2, eT ad (nI cn) due lon), (ad 6, eI 81 (ca 6) pic), (ad 7, eI 81 (ca 7) (fo (mc_wef siz) cn wei)), (ad 8, eL 32 (ca 8) (vp_updL (fo (mc_sef pla cn) qv ser) qv (fo (mc_svf pla qv) cn 0))), (ad 11, eI 81 (ca 11) siz), (ad 13, eL 81 (ca 13) pla)] := hD
          refine lv_iinc (v := nI (qv + 1)) (lv' := [(1, .int (nI (qv + 1))), (0, .ref (ad 1))]) hx hb d_S_findLeast_57 hl (k := 1) rfl (k_inc _) (by decide) rfl (fun ls hl => ?_)
          refine lv_goto (tgt := 40) hx hb d_S_findLeast_60 (by decide) ?_
          refine ihqv _ _ _ (by omega) ?_
          have e_6 : (fo (mc_sef pla cn) (qv + 1) ser) = vp_updL (fo (mc_sef pla cn) qv ser) qv (fo (mc_svf pla qv) cn 0) := rfl
          exact ⟨by (try rw [e_6]); exact lv_sub hl [1, 0] rfl, by (try rw [e_6]); exact hP, by (try rw [e_6]); exact hD, hS, trivial⟩
      · have hdone : True := trivial
        have e_7 : nI 0 = 0 := rfl
        have e_8 : (fo (mc_sef pla cn) 0 ser) = ser := rfl
        exact ⟨by (try rw [e_7]); (try rw [e_8]); exact lv_sub hl [1, 0] rfl, by (try rw [e_7]); (try rw [e_8]); exact hP, by (try rw [e_7]); (try rw [e_8]); exact hD, hS, trivial⟩
    · refine lv_aload_n hx hb d_S_findLeast_13 rfl (lv_at hl 0 rfl) ?_
      refine va_get (D := (dC, dI)) (ci := 2) (v := .ref (ad 7)) (C := R_S) (T := F_S) (N := 8) hx hb hts (hin_of in_S) hown hK hP 0 rfl rfl 4 (by decide) (hw_of hts mw_146) (fun _ h9 => h9) rfl d_S_findLeast_14 ?_
      refine lv_iload_n hx hb d_S_findLeast_17 rfl (lv_at hl 1 rfl) ?_
      refine lv_sipush (v := 1000) hx hb d_S_findLeast_18 (by decide) ?_
      refine lv_aload_n hx hb d_S_findLeast_21 rfl (lv_at hl 0 rfl) ?_
      refine va_get (D := (dC, dI)) (ci := 2) (v := .ref (ad 2)) (C := R_S) (T := F_S) (N := 8) hx hb hts (hin_of in_S) hown hK hP 0 rfl rfl 3 (by decide) (hw_of hts mw_144) (fun _ h9 => h9) rfl d_S_findLeast_22 ?_
      refine va_get (D := (dC, dI)) (ci := 0) (v := .ref (ad 11)) (C := R_T) (T := F_T) (N := 10) hx hb hts (hin_of in_T) hown hK hP 1 rfl rfl 2 (by decide) (hw_of hts mw_102) (fun _ h9 => h9) rfl d_S_findLeast_25 ?_
      refine lv_iload_n hx hb d_S_findLeast_28 rfl (lv_at hl 1 rfl) ?_
      refine k_iald (k := iv) hx hb hK hP 5 3 rfl rfl rfl (by omega) (by decide) d_S_findLeast_29 ?_
      refine lv_iadd hx hb d_S_findLeast_30 ?_
      refine k_iast (k := iv) hx hb hK hP hD hS 3 1 rfl rfl rfl (by omega) (by decide) d_S_findLeast_31 (fun H locs hP hD hS => ?_)
      have hP : va_P (dC, dI) vC [(ad 1, eS ad pk pp bw bs), (ad 2, eT ad (nI cn) due lon), (ad 6, eI 81 (ca 6) pic), (ad 7, eI 81 (ca 7) (upd (fo (mc_wef siz) iv wei) iv (1000 + (siz iv)))), (ad 8, eL 32 (ca 8) ser), (ad 11, eI 81 (ca 11) siz), (ad 13, eL 81 (ca 13) pla)] H := hP
      have hD : va_D A [(ad 1, eS ad pk pp bw bs), (ad 2, eT ad (nI cn) due lon), (ad 6, eI 81 (ca 6) pic), (ad 7, eI 81 (ca 7) (upd (fo (mc_wef siz) iv wei) iv (1000 + (siz iv)))), (ad 8, eL 32 (ca 8) ser), (ad 11, eI 81 (ca 11) siz), (ad 13, eL 81 (ca 13) pla)] := hD
      refine lv_iinc (v := nI (iv + 1)) (lv' := [(1, .int (nI (iv + 1))), (0, .ref (ad 1))]) hx hb d_S_findLeast_32 hl (k := 1) rfl (k_inc _) (by decide) rfl (fun ls hl => ?_)
      refine lv_goto (tgt := 2) hx hb d_S_findLeast_35 (by decide) ?_
      refine ihiv _ _ _ (by omega) ?_
      have e_9 : (fo (mc_wef siz) (iv + 1) wei) = upd (fo (mc_wef siz) iv wei) iv (1000 + (siz iv)) := rfl
      exact ⟨by (try rw [e_9]); exact lv_sub hl [1, 0] rfl, by (try rw [e_9]); exact hP, by (try rw [e_9]); exact hD, hS, trivial⟩
  · have hdone : True := trivial
    have e_10 : nI 0 = 0 := rfl
    have e_11 : (fo (mc_wef siz) 0 wei) = wei := rfl
    exact ⟨by (try rw [e_10]); (try rw [e_11]); exact lv_sub hl [1, 0] rfl, by (try rw [e_10]); (try rw [e_11]); exact hP, by (try rw [e_10]); (try rw [e_11]); exact hD, hS, trivial⟩
