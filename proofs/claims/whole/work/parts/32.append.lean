set_option maxHeartbeats 4000000 in
set_option maxRecDepth 100000 in
theorem c_append (l : Launch) (dC : Nat → ClassId) (dI : Nat → Nat → Nat) (ad : Nat → Nat) (ca : Nat → ClassId) (cn : Nat) (due : Int64) (lon : Int64) (one : Nat → Int32) (num : Nat → Int32) (out : Nat → Int32) (siz : Nat → Int32) (inp : Nat → Int32) (pla : Nat → Int64) (oop : Nat → Int32) (pin : Nat → Int32) (psz : Nat → Int32) (pn : Nat) (hpn : pn < 81) (hcn : cn < 81) (sz : Nat) : Met l y_T_append w_T_append ({ frames := 1, cells := 0, slots := 0, locals := 24 }) (kw_P [.ref (ad 2), .int (nI pn), .ref (ad 4)] sz (dC, dI) vC [(ad 2, eT ad (nI cn) due lon), (ad 3, eP ad), (ad 4, eI 2 (ca 4) one), (ad 9, eI 81 (ca 9) num), (ad 10, eI 81 (ca 10) out), (ad 11, eI 81 (ca 11) siz), (ad 12, eI 81 (ca 12) inp), (ad 13, eL 81 (ca 13) pla), (ad 14, eI 81 (ca 14) oop), (ad 15, eI 81 (ca 15) pin), (ad 16, eI 81 (ca 16) psz)] [(ca 4, .int), (ca 9, .int), (ca 10, .int), (ca 11, .int), (ca 12, .int), (ca 13, .long), (ca 14, .int), (ca 15, .int), (ca 16, .int)]) (kw_Qv (dC, dI) vC [(ca 4, .int), (ca 9, .int), (ca 10, .int), (ca 11, .int), (ca 12, .int), (ca 13, .long), (ca 14, .int), (ca 15, .int), (ca 16, .int)] (va_A [(ad 2, eT ad (nI cn) due lon), (ad 3, eP ad), (ad 4, eI 2 (ca 4) one), (ad 9, eI 81 (ca 9) num), (ad 10, eI 81 (ca 10) out), (ad 11, eI 81 (ca 11) siz), (ad 12, eI 81 (ca 12) inp), (ad 13, eL 81 (ca 13) pla), (ad 14, eI 81 (ca 14) oop), (ad 15, eI 81 (ca 15) pin), (ad 16, eI 81 (ca 16) psz)] sz) [(ad 2, eT ad (nI (cn + 1)) due lon), (ad 3, eP ad), (ad 4, eI 2 (ca 4) one), (ad 9, eI 81 (ca 9) (upd num cn (nI pn))), (ad 10, eI 81 (ca 10) (upd out cn (oop pn))), (ad 11, eI 81 (ca 11) (upd siz cn (psz pn))), (ad 12, eI 81 (ca 12) (upd inp cn (pin pn))), (ad 13, eL 81 (ca 13) (vp_updL pla cn (mc_pla one (pin pn) (oop pn)))), (ad 14, eI 81 (ca 14) oop), (ad 15, eI 81 (ca 15) pin), (ad 16, eI 81 (ca 16) psz)]) 0 0 (va_A [(ad 2, eT ad (nI cn) due lon), (ad 3, eP ad), (ad 4, eI 2 (ca 4) one), (ad 9, eI 81 (ca 9) num), (ad 10, eI 81 (ca 10) out), (ad 11, eI 81 (ca 11) siz), (ad 12, eI 81 (ca 12) inp), (ad 13, eL 81 (ca 13) pla), (ad 14, eI 81 (ca 14) oop), (ad 15, eI 81 (ca 15) pin), (ad 16, eI 81 (ca 16) psz)] sz) := by
  refine Met.ofW (cc := b_T_append) (maxL := 6) (ret := none) (by decide) rfl ?_
  intro p e s m args below meth c s₁ B hml hv
  obtain ⟨rfl, hsz, hP, hK, hD0⟩ := hv
  have hx := B.exec
  have hb := B.bytes
  have hr := B.returns
  have hts := atoms_spec (ws := w_T_append) B.pre
  have hlocks := B.notSynchronized
  have hown : s.vm.findClass R_T = some m.cls := findClass_of_methodNamed B.named
  subst hsz
  have hD := hD0.self (sz := s.heap.size)
  generalize hAe : va_A [(ad 2, eT ad (nI cn) due lon), (ad 3, eP ad), (ad 4, eI 2 (ca 4) one), (ad 9, eI 81 (ca 9) num), (ad 10, eI 81 (ca 10) out), (ad 11, eI 81 (ca 11) siz), (ad 12, eI 81 (ca 12) inp), (ad 13, eL 81 (ca 13) pla), (ad 14, eI 81 (ca 14) oop), (ad 15, eI 81 (ca 15) pin), (ad 16, eI 81 (ca 16) psz)] s.heap.size = A at hD ⊢
  have hA : ∀ q : Nat, s.heap.size ≤ q → A q := fun q h => by rw [← hAe]; exact Or.inr h
  have hS : va_S A s.heap s.heap [] := va_S.rf
  have hP : va_P (dC, dI) vC [(ad 2, eT ad (nI cn) due lon), (ad 3, eP ad), (ad 4, eI 2 (ca 4) one), (ad 9, eI 81 (ca 9) num), (ad 10, eI 81 (ca 10) out), (ad 11, eI 81 (ca 11) siz), (ad 12, eI 81 (ca 12) inp), (ad 13, eL 81 (ca 13) pla), (ad 14, eI 81 (ca 14) oop), (ad 15, eI 81 (ca 15) pin), (ad 16, eI 81 (ca 16) psz)] s.heap := hP
  have hl := lv_entry ([.ref (ad 2), .int (nI pn), .ref (ad 4)]) (n := 6) (Nat.le_of_ble_eq_true rfl)
  rw [lg_entry_eq]
  generalize (lg_sl ([.ref (ad 2), .int (nI pn), .ref (ad 4)]) ++ List.replicate (6 - (lg_sl ([.ref (ad 2), .int (nI pn), .ref (ad 4)])).length) Slot.unset).toArray = ls at hl ⊢
  have hl : lv_has ls 6 [(0, .ref (ad 2)), (1, .int (nI pn)), (2, .ref (ad 4))] := hl
  refine lv_aload_n hx hb d_T_append_0 rfl (lv_at hl 0 rfl) ?_
  refine va_get (D := (dC, dI)) (ci := 0) (v := .ref (ad 3)) (C := R_T) (T := F_T) (N := 10) hx hb hts (hin_of in_T) hown hK hP 0 rfl rfl 8 (by decide) (hw_of hts mw_115) (fun _ h9 => h9) rfl d_T_append_1 ?_
  refine va_get (D := (dC, dI)) (ci := 1) (v := .ref (ad 15)) (C := R_P) (T := F_P) (N := 2) hx hb hts (hin_of in_P) hown hK hP 1 rfl rfl 0 (by decide) (hw_of hts mw_86) (fun _ h9 => h9) rfl d_T_append_4 ?_
  refine lv_iload_n hx hb d_T_append_7 rfl (lv_at hl 1 rfl) ?_
  refine k_iald (k := pn) hx hb hK hP 9 7 rfl rfl rfl (by omega) (by decide) d_T_append_8 ?_
  refine lv_istore_n (lv' := [(3, .int (pin pn)), (0, .ref (ad 2)), (1, .int (nI pn)), (2, .ref (ad 4))]) hx hb d_T_append_9 rfl hl (by decide) rfl (fun ls hl => ?_)
  refine lv_aload_n hx hb d_T_append_10 rfl (lv_at hl 1 rfl) ?_
  refine va_get (D := (dC, dI)) (ci := 0) (v := .ref (ad 9)) (C := R_T) (T := F_T) (N := 10) hx hb hts (hin_of in_T) hown hK hP 0 rfl rfl 0 (by decide) (hw_of hts mw_96) (fun _ h9 => h9) rfl d_T_append_11 ?_
  refine lv_aload_n hx hb d_T_append_14 rfl (lv_at hl 1 rfl) ?_
  refine va_get (D := (dC, dI)) (ci := 0) (v := .int (nI cn)) (C := R_T) (T := F_T) (N := 10) hx hb hts (hin_of in_T) hown hK hP 0 rfl rfl 5 (by decide) (hw_of hts mw_110) (fun _ h9 => h9) rfl d_T_append_15 ?_
  refine lv_iload_n hx hb d_T_append_18 rfl (lv_at hl 2 rfl) ?_
  refine k_iast (k := cn) hx hb hK hP hD hS 3 1 rfl rfl rfl (by omega) (by decide) d_T_append_19 (fun H locs hP hD hS => ?_)
  have hP : va_P (dC, dI) vC [(ad 2, eT ad (nI cn) due lon), (ad 3, eP ad), (ad 4, eI 2 (ca 4) one), (ad 9, eI 81 (ca 9) (upd num cn (nI pn))), (ad 10, eI 81 (ca 10) out), (ad 11, eI 81 (ca 11) siz), (ad 12, eI 81 (ca 12) inp), (ad 13, eL 81 (ca 13) pla), (ad 14, eI 81 (ca 14) oop), (ad 15, eI 81 (ca 15) pin), (ad 16, eI 81 (ca 16) psz)] H := hP
  have hD : va_D A [(ad 2, eT ad (nI cn) due lon), (ad 3, eP ad), (ad 4, eI 2 (ca 4) one), (ad 9, eI 81 (ca 9) (upd num cn (nI pn))), (ad 10, eI 81 (ca 10) out), (ad 11, eI 81 (ca 11) siz), (ad 12, eI 81 (ca 12) inp), (ad 13, eL 81 (ca 13) pla), (ad 14, eI 81 (ca 14) oop), (ad 15, eI 81 (ca 15) pin), (ad 16, eI 81 (ca 16) psz)] := hD
  refine lv_aload_n hx hb d_T_append_20 rfl (lv_at hl 1 rfl) ?_
  refine va_get (D := (dC, dI)) (ci := 0) (v := .ref (ad 10)) (C := R_T) (T := F_T) (N := 10) hx hb hts (hin_of in_T) hown hK hP 0 rfl rfl 1 (by decide) (hw_of hts mw_98) (fun _ h9 => h9) rfl d_T_append_21 ?_
  refine lv_aload_n hx hb d_T_append_24 rfl (lv_at hl 1 rfl) ?_
  refine va_get (D := (dC, dI)) (ci := 0) (v := .int (nI cn)) (C := R_T) (T := F_T) (N := 10) hx hb hts (hin_of in_T) hown hK hP 0 rfl rfl 5 (by decide) (hw_of hts mw_110) (fun _ h9 => h9) rfl d_T_append_25 ?_
  refine lv_aload_n hx hb d_T_append_28 rfl (lv_at hl 1 rfl) ?_
  refine va_get (D := (dC, dI)) (ci := 0) (v := .ref (ad 14)) (C := R_T) (T := F_T) (N := 10) hx hb hts (hin_of in_T) hown hK hP 0 rfl rfl 9 (by decide) (hw_of hts mw_116) (fun _ h9 => h9) rfl d_T_append_29 ?_
  refine lv_iload_n hx hb d_T_append_32 rfl (lv_at hl 2 rfl) ?_
  refine k_iald (k := pn) hx hb hK hP 8 6 rfl rfl rfl (by omega) (by decide) d_T_append_33 ?_
  refine k_iast (k := cn) hx hb hK hP hD hS 4 2 rfl rfl rfl (by omega) (by decide) d_T_append_34 (fun H locs hP hD hS => ?_)
  have hP : va_P (dC, dI) vC [(ad 2, eT ad (nI cn) due lon), (ad 3, eP ad), (ad 4, eI 2 (ca 4) one), (ad 9, eI 81 (ca 9) (upd num cn (nI pn))), (ad 10, eI 81 (ca 10) (upd out cn (oop pn))), (ad 11, eI 81 (ca 11) siz), (ad 12, eI 81 (ca 12) inp), (ad 13, eL 81 (ca 13) pla), (ad 14, eI 81 (ca 14) oop), (ad 15, eI 81 (ca 15) pin), (ad 16, eI 81 (ca 16) psz)] H := hP
  have hD : va_D A [(ad 2, eT ad (nI cn) due lon), (ad 3, eP ad), (ad 4, eI 2 (ca 4) one), (ad 9, eI 81 (ca 9) (upd num cn (nI pn))), (ad 10, eI 81 (ca 10) (upd out cn (oop pn))), (ad 11, eI 81 (ca 11) siz), (ad 12, eI 81 (ca 12) inp), (ad 13, eL 81 (ca 13) pla), (ad 14, eI 81 (ca 14) oop), (ad 15, eI 81 (ca 15) pin), (ad 16, eI 81 (ca 16) psz)] := hD
  refine lv_aload_n hx hb d_T_append_35 rfl (lv_at hl 1 rfl) ?_
  refine va_get (D := (dC, dI)) (ci := 0) (v := .ref (ad 11)) (C := R_T) (T := F_T) (N := 10) hx hb hts (hin_of in_T) hown hK hP 0 rfl rfl 2 (by decide) (hw_of hts mw_101) (fun _ h9 => h9) rfl d_T_append_36 ?_
  refine lv_aload_n hx hb d_T_append_39 rfl (lv_at hl 1 rfl) ?_
  refine va_get (D := (dC, dI)) (ci := 0) (v := .int (nI cn)) (C := R_T) (T := F_T) (N := 10) hx hb hts (hin_of in_T) hown hK hP 0 rfl rfl 5 (by decide) (hw_of hts mw_110) (fun _ h9 => h9) rfl d_T_append_40 ?_
  refine lv_aload_n hx hb d_T_append_43 rfl (lv_at hl 1 rfl) ?_
  refine va_get (D := (dC, dI)) (ci := 0) (v := .ref (ad 3)) (C := R_T) (T := F_T) (N := 10) hx hb hts (hin_of in_T) hown hK hP 0 rfl rfl 8 (by decide) (hw_of hts mw_115) (fun _ h9 => h9) rfl d_T_append_44 ?_
  refine va_get (D := (dC, dI)) (ci := 1) (v := .ref (ad 16)) (C := R_P) (T := F_P) (N := 2) hx hb hts (hin_of in_P) hown hK hP 1 rfl rfl 1 (by decide) (hw_of hts mw_88) (fun _ h9 => h9) rfl d_T_append_47 ?_
  refine lv_iload_n hx hb d_T_append_50 rfl (lv_at hl 2 rfl) ?_
  refine k_iald (k := pn) hx hb hK hP 10 8 rfl rfl rfl (by omega) (by decide) d_T_append_51 ?_
  refine k_iast (k := cn) hx hb hK hP hD hS 5 3 rfl rfl rfl (by omega) (by decide) d_T_append_52 (fun H locs hP hD hS => ?_)
  have hP : va_P (dC, dI) vC [(ad 2, eT ad (nI cn) due lon), (ad 3, eP ad), (ad 4, eI 2 (ca 4) one), (ad 9, eI 81 (ca 9) (upd num cn (nI pn))), (ad 10, eI 81 (ca 10) (upd out cn (oop pn))), (ad 11, eI 81 (ca 11) (upd siz cn (psz pn))), (ad 12, eI 81 (ca 12) inp), (ad 13, eL 81 (ca 13) pla), (ad 14, eI 81 (ca 14) oop), (ad 15, eI 81 (ca 15) pin), (ad 16, eI 81 (ca 16) psz)] H := hP
  have hD : va_D A [(ad 2, eT ad (nI cn) due lon), (ad 3, eP ad), (ad 4, eI 2 (ca 4) one), (ad 9, eI 81 (ca 9) (upd num cn (nI pn))), (ad 10, eI 81 (ca 10) (upd out cn (oop pn))), (ad 11, eI 81 (ca 11) (upd siz cn (psz pn))), (ad 12, eI 81 (ca 12) inp), (ad 13, eL 81 (ca 13) pla), (ad 14, eI 81 (ca 14) oop), (ad 15, eI 81 (ca 15) pin), (ad 16, eI 81 (ca 16) psz)] := hD
  refine lv_aload_n hx hb d_T_append_53 rfl (lv_at hl 1 rfl) ?_
  refine va_get (D := (dC, dI)) (ci := 0) (v := .ref (ad 12)) (C := R_T) (T := F_T) (N := 10) hx hb hts (hin_of in_T) hown hK hP 0 rfl rfl 3 (by decide) (hw_of hts mw_104) (fun _ h9 => h9) rfl d_T_append_54 ?_
  refine lv_aload_n hx hb d_T_append_57 rfl (lv_at hl 1 rfl) ?_
  refine va_get (D := (dC, dI)) (ci := 0) (v := .int (nI cn)) (C := R_T) (T := F_T) (N := 10) hx hb hts (hin_of in_T) hown hK hP 0 rfl rfl 5 (by decide) (hw_of hts mw_110) (fun _ h9 => h9) rfl d_T_append_58 ?_
  refine lv_iload_n hx hb d_T_append_61 rfl (lv_at hl 0 rfl) ?_
  refine k_iast (k := cn) hx hb hK hP hD hS 6 4 rfl rfl rfl (by omega) (by decide) d_T_append_62 (fun H locs hP hD hS => ?_)
  have hP : va_P (dC, dI) vC [(ad 2, eT ad (nI cn) due lon), (ad 3, eP ad), (ad 4, eI 2 (ca 4) one), (ad 9, eI 81 (ca 9) (upd num cn (nI pn))), (ad 10, eI 81 (ca 10) (upd out cn (oop pn))), (ad 11, eI 81 (ca 11) (upd siz cn (psz pn))), (ad 12, eI 81 (ca 12) (upd inp cn (pin pn))), (ad 13, eL 81 (ca 13) pla), (ad 14, eI 81 (ca 14) oop), (ad 15, eI 81 (ca 15) pin), (ad 16, eI 81 (ca 16) psz)] H := hP
  have hD : va_D A [(ad 2, eT ad (nI cn) due lon), (ad 3, eP ad), (ad 4, eI 2 (ca 4) one), (ad 9, eI 81 (ca 9) (upd num cn (nI pn))), (ad 10, eI 81 (ca 10) (upd out cn (oop pn))), (ad 11, eI 81 (ca 11) (upd siz cn (psz pn))), (ad 12, eI 81 (ca 12) (upd inp cn (pin pn))), (ad 13, eL 81 (ca 13) pla), (ad 14, eI 81 (ca 14) oop), (ad 15, eI 81 (ca 15) pin), (ad 16, eI 81 (ca 16) psz)] := hD
  refine lv_iload_n hx hb d_T_append_63 rfl (lv_at hl 0 rfl) ?_
  refine lv_i2l hx hb d_T_append_64 rfl ?_
  refine lv_bipush (v := 16) hx hb d_T_append_65 (by decide) ?_
  refine lv_lshl (v := ((pin pn).toInt64) <<< ((16 : Int32).toInt64 &&& 63)) hx hb d_T_append_67 rfl ?_
  refine lv_iload_n hx hb d_T_append_68 rfl (lv_at hl 0 rfl) ?_
  refine lv_i2l hx hb d_T_append_69 rfl ?_
  refine lv_lor hx hb d_T_append_70 ?_
  refine lv_lstore (lv' := [(4, .long ((((pin pn).toInt64) <<< ((16 : Int32).toInt64 &&& 63)) ||| ((pin pn).toInt64))), (3, .int (pin pn)), (0, .ref (ad 2)), (1, .int (nI pn)), (2, .ref (ad 4))]) hx hb d_T_append_71 hl (by decide) rfl (fun ls hl => ?_)
  refine lv_aload_n hx hb d_T_append_73 rfl (lv_at hl 2 rfl) ?_
  refine va_get (D := (dC, dI)) (ci := 0) (v := .ref (ad 13)) (C := R_T) (T := F_T) (N := 10) hx hb hts (hin_of in_T) hown hK hP 0 rfl rfl 4 (by decide) (hw_of hts mw_107) (fun _ h9 => h9) rfl d_T_append_74 ?_
  refine lv_aload_n hx hb d_T_append_77 rfl (lv_at hl 2 rfl) ?_
  refine va_get (D := (dC, dI)) (ci := 0) (v := .int (nI cn)) (C := R_T) (T := F_T) (N := 10) hx hb hts (hin_of in_T) hown hK hP 0 rfl rfl 5 (by decide) (hw_of hts mw_110) (fun _ h9 => h9) rfl d_T_append_78 ?_
  refine lv_lload hx hb d_T_append_81 (lv_at hl 0 rfl) ?_
  refine lv_aload_n hx hb d_T_append_83 rfl (lv_at hl 4 rfl) ?_
  refine lv_aload_n hx hb d_T_append_84 rfl (lv_at hl 2 rfl) ?_
  refine va_get (D := (dC, dI)) (ci := 0) (v := .ref (ad 10)) (C := R_T) (T := F_T) (N := 10) hx hb hts (hin_of in_T) hown hK hP 0 rfl rfl 1 (by decide) (hw_of hts mw_98) (fun _ h9 => h9) rfl d_T_append_85 ?_
  refine lv_aload_n hx hb d_T_append_88 rfl (lv_at hl 2 rfl) ?_
  refine va_get (D := (dC, dI)) (ci := 0) (v := .int (nI cn)) (C := R_T) (T := F_T) (N := 10) hx hb hts (hin_of in_T) hown hK hP 0 rfl rfl 5 (by decide) (hw_of hts mw_110) (fun _ h9 => h9) rfl d_T_append_89 ?_
  refine k_iald (k := cn) hx hb hK hP 4 2 rfl rfl rfl (by omega) (by decide) d_T_append_92 ?_
  have hPc := hP.sub (ws' := [(ad 4, eI 2 (ca 4) one)]) [2] rfl
  have hKc := hK.sub (tys' := [(ca 4, .int)]) [0] rfl
  refine vp_callSl (W.runS (As := [.ref (ad 4), .int ((upd out cn (oop pn)) cn)]) (rest := [.long ((((pin pn).toInt64) <<< ((16 : Int32).toInt64 &&& 63)) ||| ((pin pn).toInt64)), .int (nI cn), .ref (ad 13)]) ⟨hx, hb, hml, hown, hts⟩ (c_placesOf l dC dI ad ca one ((upd out cn (oop pn)) cn)) (va_cwS 2 hts (gd_S mw_224 mw_225 mw_42 mw_226) rfl rfl rfl (by decide +kernel) ⟨Nat.le_of_ble_eq_true rfl, Nat.le_of_ble_eq_true rfl⟩) (kr_S hKc hPc) rfl rfl hl.1 rfl (lv_room (Nat.le_of_ble_eq_true rfl)) d_T_append_93 ⟨Nat.zero_le _, Nat.zero_le _⟩) (fun r hq => ?_)
  subst hq
  refine lv_land hx hb d_T_append_96 ?_
  refine k_last (k := cn) hx hb hK hP hD hS 7 5 rfl rfl rfl (by omega) (by decide) d_T_append_97 (fun H locs hP hD hS => ?_)
  have hP : va_P (dC, dI) vC [(ad 2, eT ad (nI cn) due lon), (ad 3, eP ad), (ad 4, eI 2 (ca 4) one), (ad 9, eI 81 (ca 9) (upd num cn (nI pn))), (ad 10, eI 81 (ca 10) (upd out cn (oop pn))), (ad 11, eI 81 (ca 11) (upd siz cn (psz pn))), (ad 12, eI 81 (ca 12) (upd inp cn (pin pn))), (ad 13, eL 81 (ca 13) (vp_updL pla cn (((((pin pn).toInt64) <<< ((16 : Int32).toInt64 &&& 63)) ||| ((pin pn).toInt64)) &&& (fo (mc_plf one ((upd out cn (oop pn)) cn)) 2 0)))), (ad 14, eI 81 (ca 14) oop), (ad 15, eI 81 (ca 15) pin), (ad 16, eI 81 (ca 16) psz)] H := hP
  have hD : va_D A [(ad 2, eT ad (nI cn) due lon), (ad 3, eP ad), (ad 4, eI 2 (ca 4) one), (ad 9, eI 81 (ca 9) (upd num cn (nI pn))), (ad 10, eI 81 (ca 10) (upd out cn (oop pn))), (ad 11, eI 81 (ca 11) (upd siz cn (psz pn))), (ad 12, eI 81 (ca 12) (upd inp cn (pin pn))), (ad 13, eL 81 (ca 13) (vp_updL pla cn (((((pin pn).toInt64) <<< ((16 : Int32).toInt64 &&& 63)) ||| ((pin pn).toInt64)) &&& (fo (mc_plf one ((upd out cn (oop pn)) cn)) 2 0)))), (ad 14, eI 81 (ca 14) oop), (ad 15, eI 81 (ca 15) pin), (ad 16, eI 81 (ca 16) psz)] := hD
  refine lv_aload_n hx hb d_T_append_98 rfl (lv_at hl 2 rfl) ?_
  refine lv_dup hx hb d_T_append_99 rfl ?_
  refine va_get (D := (dC, dI)) (ci := 0) (v := .int (nI cn)) (C := R_T) (T := F_T) (N := 10) hx hb hts (hin_of in_T) hown hK hP 0 rfl rfl 5 (by decide) (hw_of hts mw_110) (fun _ h9 => h9) rfl d_T_append_100 ?_
  refine lv_iconst (v := 1) hx hb d_T_append_103 (by decide) ?_
  refine k_iadd (a := cn) (b := 1) hx hb rfl rfl d_T_append_104 ?_
  refine va_put (D := (dC, dI)) (ci := 0) (v := .int (nI (cn + 1))) (ty := .int) (C := R_T) (T := F_T) (N := 10) hx hb hts (hin_of in_T) ft_T tk_T nm_T hown hK hP hD hS 0 rfl rfl 5 (by decide) (hw_of hts mw_110) (fun _ h9 => h9) rfl (by decide +kernel) rfl rfl (Nat.le_of_ble_eq_true rfl) d_T_append_105 (fun H locs hP hD hS => ?_)
  have hP : va_P (dC, dI) vC [(ad 2, eT ad (nI (cn + 1)) due lon), (ad 3, eP ad), (ad 4, eI 2 (ca 4) one), (ad 9, eI 81 (ca 9) (upd num cn (nI pn))), (ad 10, eI 81 (ca 10) (upd out cn (oop pn))), (ad 11, eI 81 (ca 11) (upd siz cn (psz pn))), (ad 12, eI 81 (ca 12) (upd inp cn (pin pn))), (ad 13, eL 81 (ca 13) (vp_updL pla cn (((((pin pn).toInt64) <<< ((16 : Int32).toInt64 &&& 63)) ||| ((pin pn).toInt64)) &&& (fo (mc_plf one ((upd out cn (oop pn)) cn)) 2 0)))), (ad 14, eI 81 (ca 14) oop), (ad 15, eI 81 (ca 15) pin), (ad 16, eI 81 (ca 16) psz)] H := hP
  have hD : va_D A [(ad 2, eT ad (nI (cn + 1)) due lon), (ad 3, eP ad), (ad 4, eI 2 (ca 4) one), (ad 9, eI 81 (ca 9) (upd num cn (nI pn))), (ad 10, eI 81 (ca 10) (upd out cn (oop pn))), (ad 11, eI 81 (ca 11) (upd siz cn (psz pn))), (ad 12, eI 81 (ca 12) (upd inp cn (pin pn))), (ad 13, eL 81 (ca 13) (vp_updL pla cn (((((pin pn).toInt64) <<< ((16 : Int32).toInt64 &&& 63)) ||| ((pin pn).toInt64)) &&& (fo (mc_plf one ((upd out cn (oop pn)) cn)) 2 0)))), (ad 14, eI 81 (ca 14) oop), (ad 15, eI 81 (ca 15) pin), (ad 16, eI 81 (ca 16) psz)] := hD
  have e_1 : vp_updL pla cn (mc_pla one (pin pn) (oop pn)) = vp_updL pla cn (((((pin pn).toInt64) <<< ((16 : Int32).toInt64 &&& 63)) ||| ((pin pn).toInt64)) &&& (fo (mc_plf one ((upd out cn (oop pn)) cn)) 2 0)) := by rw [pk_us]; rfl
  exact W.vret hx hb hr (fun t ht hW => by (try rw [e_1]); exact kw_endv hP hD hK hS [0, 1, 2, 3, 4, 5, 6, 7, 8, 9, 10] rfl (by decide) rfl ht hW.alike) hS.2.2 d_T_append_108
