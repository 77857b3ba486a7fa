set_option maxHeartbeats 4000000 in
set_option maxRecDepth 100000 in
theorem c_H_init (l : Launch) (dC : Nat → ClassId) (dI : Nat → Nat → Nat) (b : Nat) (tP tI : Nat) (sz : Nat) : Met l y_H_init w_H_init ({ frames := 10, cells := 16, slots := 866, locals := 400 }) (kw_N (kw_PX tP tI [.ref b] sz (dC, dI) vC [(b, .inr (3, [.null, .null, .null, .null, .int 0, .int 0, .int 0, .int 0]))] [])) (kw_Qn (dC, dI) vC (fun u => [(u.2 4, .int), (u.2 5, .int), (u.2 9, .int), (u.2 10, .int), (u.2 11, .int), (u.2 12, .int), (u.2 13, .long), (u.2 14, .int), (u.2 15, .int), (u.2 16, .int), (u.2 6, .int), (u.2 7, .int), (u.2 8, .long)]) (va_A [(b, .inr (3, [.null, .null, .null, .null, .int 0, .int 0, .int 0, .int 0]))] sz) (fun u => u.1 0 = b) (fun u => [(u.1 0, eH u.1 1 1 0 0), (u.1 2, eT u.1 0 0 0), (u.1 3, eP u.1), (u.1 4, eI 2 (u.2 4) (fo (mc_setf 0) 2 (fun _ => 0))), (u.1 5, eI 2 (u.2 5) (fo (mc_setf (mc_all 1)) 2 (fun _ => 0))), (u.1 9, eI 81 (u.2 9) (fun _ => 0)), (u.1 10, eI 81 (u.2 10) (fun _ => 0)), (u.1 11, eI 81 (u.2 11) (fun _ => 0)), (u.1 12, eI 81 (u.2 12) (fun _ => 0)), (u.1 13, eL 81 (u.2 13) (fun _ => 0)), (u.1 14, eI 81 (u.2 14) (fun _ => 0)), (u.1 15, eI 81 (u.2 15) prI), (u.1 16, eI 81 (u.2 16) prS), (u.1 1, eS u.1 0 0 0 0), (u.1 6, eI 81 (u.2 6) (fun _ => 0)), (u.1 7, eI 81 (u.2 7) (fun _ => 0)), (u.1 8, eL 32 (u.2 8) (fun _ => 0))])) 16 866 (va_A [(b, .inr (3, [.null, .null, .null, .null, .int 0, .int 0, .int 0, .int 0]))] sz) := by
  refine Met.ofW (cc := b_H_init) (maxL := 1) (ret := none) (by decide) rfl ?_
  intro p e s m args below meth c s₁ B hml hv
  obtain ⟨⟨⟨rfl, hsz, hP, hK, hD0⟩, hX⟩, hnn⟩ := hv
  have hx := B.exec
  have hb := B.bytes
  have hr := B.returns
  have hts := atoms_spec (ws := w_H_init) B.pre
  have hlocks := B.notSynchronized
  have hown : s.vm.findClass R_H = some m.cls := findClass_of_methodNamed B.named
  have hin : meth.name = "<init>" := (name_of_methodNamed B.named B.method).1
  subst hsz
  have hD := hD0.self (sz := s.heap.size)
  generalize hAe : va_A [(b, .inr (3, [.null, .null, .null, .null, .int 0, .int 0, .int 0, .int 0]))] s.heap.size = A at hD hX ⊢
  have hA : ∀ q : Nat, s.heap.size ≤ q → A q := fun q h => by rw [← hAe]; exact Or.inr h
  clear hAe
  have hS : va_S A s.heap s.heap [] := va_S.rf
  have hP : va_P (dC, dI) vC [(b, .inr (3, [.null, .null, .null, .null, .int 0, .int 0, .int 0, .int 0]))] s.heap := hP
  have hl := lv_entry ([.ref b]) (n := 1) (Nat.le_of_ble_eq_true rfl)
  rw [lg_entry_eq]
  generalize (lg_sl ([.ref b]) ++ List.replicate (1 - (lg_sl ([.ref b])).length) Slot.unset).toArray = ls at hl ⊢
  have hl : lv_has ls 1 [(0, .ref b)] := hl
  refine lv_aload_n hx hb d_H_init_0 rfl (lv_at hl 0 rfl) ?_
  refine W.objInit hx hb hown (hw_of hts mw_57) (hw_of hts mw_58) (hw_of hts mw_59) rfl (by rw [hml]; exact hl.1) rfl d_H_init_1 (Nat.le_of_ble_eq_true rfl) (Nat.le_of_ble_eq_true rfl) ?_
  refine W.eq (g2 := F0 m 4 ls []) rfl ?_
  refine lv_aload_n hx hb d_H_init_4 rfl (lv_at hl 0 rfl) ?_
  refine lv_iconst (v := 2) hx hb d_H_init_5 (by decide) ?_
  refine va_newa (atype := .int) (ty := .int) (N' := 2) (a0 := ((2 : Nat), .inl (fun _ => 0))) hx hb (hw_of hts mw_94) rfl hK hP hD hS hA (nw_i 2) (by decide +kernel) (by decide +kernel) (by decide +kernel) (by show _ ≤ 16; omega) (by show _ ≤ 866; omega) d_H_init_6 (fun q6 c6 H hK hP hD hS => ?_)
  have hK : va_K (dC, dI) vC [(c6, .int)] s := hK
  have hP : va_P (dC, dI) vC [(b, .inr (3, [.null, .null, .null, .null, .int 0, .int 0, .int 0, .int 0])), (q6, eI 2 c6 (fun _ => 0))] H := hP
  have hD : va_D A [(b, .inr (3, [.null, .null, .null, .null, .int 0, .int 0, .int 0, .int 0])), (q6, eI 2 c6 (fun _ => 0))] := hD
  refine va_putF (D := (dC, dI)) (ci := 3) (v := .ref q6) (ty := .array .int) (C := R_H) (T := F_H) (N := 8) hx hb hts (hin_of in_H) ft_H tk_H nm_H hown hK hP hD hS 0 rfl rfl 0 (by decide) (hw_of hts mw_179) (fun _ h9 => h9) rfl hin rfl (by decide +kernel) rfl rfl (Nat.le_of_ble_eq_true rfl) d_H_init_8 (fun H locs hP hD hS => ?_)
  have hP : va_P (dC, dI) vC [(b, .inr (3, [.ref q6, .null, .null, .null, .int 0, .int 0, .int 0, .int 0])), (q6, eI 2 c6 (fun _ => 0))] H := hP
  have hD : va_D A [(b, .inr (3, [.ref q6, .null, .null, .null, .int 0, .int 0, .int 0, .int 0])), (q6, eI 2 c6 (fun _ => 0))] := hD
  refine lv_aload_n hx hb d_H_init_11 rfl (lv_at hl 0 rfl) ?_
  refine lv_iconst (v := 2) hx hb d_H_init_12 (by decide) ?_
  refine va_newa (atype := .int) (ty := .int) (N' := 2) (a0 := ((2 : Nat), .inl (fun _ => 0))) hx hb (hw_of hts mw_94) rfl hK hP hD hS hA (nw_i 2) (by decide +kernel) (by decide +kernel) (by decide +kernel) (by show _ ≤ 16; omega) (by show _ ≤ 866; omega) d_H_init_13 (fun q13 c13 H hK hP hD hS => ?_)
  have hK : va_K (dC, dI) vC [(c6, .int), (c13, .int)] s := hK
  have hP : va_P (dC, dI) vC [(b, .inr (3, [.ref q6, .null, .null, .null, .int 0, .int 0, .int 0, .int 0])), (q6, eI 2 c6 (fun _ => 0)), (q13, eI 2 c13 (fun _ => 0))] H := hP
  have hD : va_D A [(b, .inr (3, [.ref q6, .null, .null, .null, .int 0, .int 0, .int 0, .int 0])), (q6, eI 2 c6 (fun _ => 0)), (q13, eI 2 c13 (fun _ => 0))] := hD
  refine va_putF (D := (dC, dI)) (ci := 3) (v := .ref q13) (ty := .array .int) (C := R_H) (T := F_H) (N := 8) hx hb hts (hin_of in_H) ft_H tk_H nm_H hown hK hP hD hS 0 rfl rfl 1 (by decide) (hw_of hts mw_180) (fun _ h9 => h9) rfl hin rfl (by decide +kernel) rfl rfl (Nat.le_of_ble_eq_true rfl) d_H_init_15 (fun H locs hP hD hS => ?_)
  have hP : va_P (dC, dI) vC [(b, .inr (3, [.ref q6, .ref q13, .null, .null, .int 0, .int 0, .int 0, .int 0])), (q6, eI 2 c6 (fun _ => 0)), (q13, eI 2 c13 (fun _ => 0))] H := hP
  have hD : va_D A [(b, .inr (3, [.ref q6, .ref q13, .null, .null, .int 0, .int 0, .int 0, .int 0])), (q6, eI 2 c6 (fun _ => 0)), (q13, eI 2 c13 (fun _ => 0))] := hD
  refine lv_aload_n hx hb d_H_init_18 rfl (lv_at hl 0 rfl) ?_
  refine va_new (ci := 2) (fs := [.null, .int 0, .int 0, .null, .null, .null, .int 0, .long 0]) (C := R_S) (T := F_S) (N := 8) hx hb hts (hin_of in_S) ft_S tk_S hown (hw_of hts mw_60) (hw_of hts mw_61) (hw_of hts mw_41) hK hP hD hS hA rfl (fun j hj => by rcases (show j = 0 ∨ j = 1 ∨ j = 2 ∨ j = 3 ∨ j = 4 ∨ j = 5 ∨ j = 6 ∨ j = 7 by omega) with rfl | rfl | rfl | rfl | rfl | rfl | rfl | rfl <;> rfl) (Nat.le_of_ble_eq_true rfl) (Nat.le_of_ble_eq_true rfl) d_H_init_19 (fun q19 H hP hD hS => ?_)
  have hP : va_P (dC, dI) vC [(b, .inr (3, [.ref q6, .ref q13, .null, .null, .int 0, .int 0, .int 0, .int 0])), (q6, eI 2 c6 (fun _ => 0)), (q13, eI 2 c13 (fun _ => 0)), (q19, .inr (2, [.null, .int 0, .int 0, .null, .null, .null, .int 0, .long 0]))] H := hP
  have hD : va_D A [(b, .inr (3, [.ref q6, .ref q13, .null, .null, .int 0, .int 0, .int 0, .int 0])), (q6, eI 2 c6 (fun _ => 0)), (q13, eI 2 c13 (fun _ => 0)), (q19, .inr (2, [.null, .int 0, .int 0, .null, .null, .null, .int 0, .long 0]))] := hD
  refine lv_dup hx hb d_H_init_22 rfl ?_
  have hPc := hP.sub (ws' := [(q19, .inr (2, [.null, .int 0, .int 0, .null, .null, .null, .int 0, .long 0]))]) [3] rfl
  have hDc := hD.sub (ws' := [(q19, .inr (2, [.null, .int 0, .int 0, .null, .null, .null, .int 0, .long 0]))]) [3] (by decide) rfl
  have hKc := hK.sub (tys' := []) [] rfl
  have hFc := va_free (wc := [(q19, .inr (2, [.null, .int 0, .int 0, .null, .null, .null, .int 0, .long 0]))]) hD hS hA [3] rfl
  refine kw_calln (wr := [(b, .inr (3, [.ref q6, .ref q13, .null, .null, .int 0, .int 0, .int 0, .int 0])), (q6, eI 2 c6 (fun _ => 0)), (q13, eI 2 c13 (fun _ => 0))]) (tysc := fun u => [(u.2 6, .int), (u.2 7, .int), (u.2 8, .long), (u.2 9, .int), (u.2 10, .int), (u.2 11, .int), (u.2 12, .int), (u.2 13, .long), (u.2 14, .int), (u.2 15, .int), (u.2 16, .int)]) (w := fun u => [(u.1 1, eS u.1 0 0 0 0), (u.1 2, eT u.1 0 0 0), (u.1 3, eP u.1), (u.1 6, eI 81 (u.2 6) (fun _ => 0)), (u.1 7, eI 81 (u.2 7) (fun _ => 0)), (u.1 8, eL 32 (u.2 8) (fun _ => 0)), (u.1 9, eI 81 (u.2 9) (fun _ => 0)), (u.1 10, eI 81 (u.2 10) (fun _ => 0)), (u.1 11, eI 81 (u.2 11) (fun _ => 0)), (u.1 12, eI 81 (u.2 12) (fun _ => 0)), (u.1 13, eL 81 (u.2 13) (fun _ => 0)), (u.1 14, eI 81 (u.2 14) (fun _ => 0)), (u.1 15, eI 81 (u.2 15) prI), (u.1 16, eI 81 (u.2 16) prS)]) (va_runIN (As := []) (rest := [.ref q19, .ref b]) ⟨hx, hb, hml, hown, hts⟩ (c_S_init l dC dI q19 tP tI _) ⟨va_cnB 0 hts (gd_C mw_64) rfl rfl rfl (hnn _ (List.mem_of_getElem? (l := nn_L) (i := 0) rfl)) (hw_of hts mw_41) (by decide +kernel) ⟨Nat.le_of_ble_eq_true rfl, Nat.le_of_ble_eq_true rfl⟩, rfl, (hw_of hts mw_63)⟩ (kw_NS (kw_SX hKc hPc hDc hX hS hFc) hnn) rfl rfl hl.1 rfl (lv_room (Nat.le_of_ble_eq_true rfl)) d_H_init_23 ⟨Nat.le_of_ble_eq_true rfl, Nat.le_of_ble_eq_true rfl⟩) hK hP hD hS hA [3] [0, 1, 2] rfl rfl (by decide) (by decide) (fun u23 hu23 H locs hK hP hD hS => ?_)
  obtain ⟨ad23, ca23⟩ := u23
  have hu23 : ad23 1 = q19 := hu23
  have hK : va_K (dC, dI) vC [(c6, .int), (c13, .int), ((ca23 6), .int), ((ca23 7), .int), ((ca23 8), .long), ((ca23 9), .int), ((ca23 10), .int), ((ca23 11), .int), ((ca23 12), .int), ((ca23 13), .long), ((ca23 14), .int), ((ca23 15), .int), ((ca23 16), .int)] s := hK
  have hP : va_P (dC, dI) vC [(b, .inr (3, [.ref q6, .ref q13, .null, .null, .int 0, .int 0, .int 0, .int 0])), (q6, eI 2 c6 (fun _ => 0)), (q13, eI 2 c13 (fun _ => 0)), ((ad23 1), .inr (2, [.ref (ad23 6), .int 0, .int 0, .ref (ad23 2), .ref (ad23 7), .ref (ad23 8), .int 0, .long 0])), ((ad23 2), .inr (0, [.ref (ad23 9), .ref (ad23 10), .ref (ad23 11), .ref (ad23 12), .ref (ad23 13), .int 0, .long 0, .long 0, .ref (ad23 3), .ref (ad23 14)])), ((ad23 3), .inr (1, [.ref (ad23 15), .ref (ad23 16)])), ((ad23 6), eI 81 (ca23 6) (fun _ => 0)), ((ad23 7), eI 81 (ca23 7) (fun _ => 0)), ((ad23 8), eL 32 (ca23 8) (fun _ => 0)), ((ad23 9), eI 81 (ca23 9) (fun _ => 0)), ((ad23 10), eI 81 (ca23 10) (fun _ => 0)), ((ad23 11), eI 81 (ca23 11) (fun _ => 0)), ((ad23 12), eI 81 (ca23 12) (fun _ => 0)), ((ad23 13), eL 81 (ca23 13) (fun _ => 0)), ((ad23 14), eI 81 (ca23 14) (fun _ => 0)), ((ad23 15), eI 81 (ca23 15) prI), ((ad23 16), eI 81 (ca23 16) prS)] H := hP
  have hD : va_D A [(b, .inr (3, [.ref q6, .ref q13, .null, .null, .int 0, .int 0, .int 0, .int 0])), (q6, eI 2 c6 (fun _ => 0)), (q13, eI 2 c13 (fun _ => 0)), ((ad23 1), .inr (2, [.ref (ad23 6), .int 0, .int 0, .ref (ad23 2), .ref (ad23 7), .ref (ad23 8), .int 0, .long 0])), ((ad23 2), .inr (0, [.ref (ad23 9), .ref (ad23 10), .ref (ad23 11), .ref (ad23 12), .ref (ad23 13), .int 0, .long 0, .long 0, .ref (ad23 3), .ref (ad23 14)])), ((ad23 3), .inr (1, [.ref (ad23 15), .ref (ad23 16)])), ((ad23 6), eI 81 (ca23 6) (fun _ => 0)), ((ad23 7), eI 81 (ca23 7) (fun _ => 0)), ((ad23 8), eL 32 (ca23 8) (fun _ => 0)), ((ad23 9), eI 81 (ca23 9) (fun _ => 0)), ((ad23 10), eI 81 (ca23 10) (fun _ => 0)), ((ad23 11), eI 81 (ca23 11) (fun _ => 0)), ((ad23 12), eI 81 (ca23 12) (fun _ => 0)), ((ad23 13), eL 81 (ca23 13) (fun _ => 0)), ((ad23 14), eI 81 (ca23 14) (fun _ => 0)), ((ad23 15), eI 81 (ca23 15) prI), ((ad23 16), eI 81 (ca23 16) prS)] := hD
  rw [hu23] at hP hD
  generalize ad23 2 = q23_2 at hP hD
  generalize ad23 3 = q23_3 at hP hD
  generalize ad23 6 = q23_6 at hP hD
  generalize ca23 6 = c23_6 at hP hD hK
  generalize ad23 7 = q23_7 at hP hD
  generalize ca23 7 = c23_7 at hP hD hK
  generalize ad23 8 = q23_8 at hP hD
  generalize ca23 8 = c23_8 at hP hD hK
  generalize ad23 9 = q23_9 at hP hD
  generalize ca23 9 = c23_9 at hP hD hK
  generalize ad23 10 = q23_10 at hP hD
  generalize ca23 10 = c23_10 at hP hD hK
  generalize ad23 11 = q23_11 at hP hD
  generalize ca23 11 = c23_11 at hP hD hK
  generalize ad23 12 = q23_12 at hP hD
  generalize ca23 12 = c23_12 at hP hD hK
  generalize ad23 13 = q23_13 at hP hD
  generalize ca23 13 = c23_13 at hP hD hK
  generalize ad23 14 = q23_14 at hP hD
  generalize ca23 14 = c23_14 at hP hD hK
  generalize ad23 15 = q23_15 at hP hD
  generalize ca23 15 = c23_15 at hP hD hK
  generalize ad23 16 = q23_16 at hP hD
  generalize ca23 16 = c23_16 at hP hD hK
  have hK : va_K (dC, dI) vC [(c6, .int), (c13, .int), (c23_6, .int), (c23_7, .int), (c23_8, .long), (c23_9, .int), (c23_10, .int), (c23_11, .int), (c23_12, .int), (c23_13, .long), (c23_14, .int), (c23_15, .int), (c23_16, .int)] s := hK
  have hP : va_P (dC, dI) vC [(b, .inr (3, [.ref q6, .ref q13, .null, .null, .int 0, .int 0, .int 0, .int 0])), (q6, eI 2 c6 (fun _ => 0)), (q13, eI 2 c13 (fun _ => 0)), (q19, .inr (2, [.ref q23_6, .int 0, .int 0, .ref q23_2, .ref q23_7, .ref q23_8, .int 0, .long 0])), (q23_2, .inr (0, [.ref q23_9, .ref q23_10, .ref q23_11, .ref q23_12, .ref q23_13, .int 0, .long 0, .long 0, .ref q23_3, .ref q23_14])), (q23_3, .inr (1, [.ref q23_15, .ref q23_16])), (q23_6, eI 81 c23_6 (fun _ => 0)), (q23_7, eI 81 c23_7 (fun _ => 0)), (q23_8, eL 32 c23_8 (fun _ => 0)), (q23_9, eI 81 c23_9 (fun _ => 0)), (q23_10, eI 81 c23_10 (fun _ => 0)), (q23_11, eI 81 c23_11 (fun _ => 0)), (q23_12, eI 81 c23_12 (fun _ => 0)), (q23_13, eL 81 c23_13 (fun _ => 0)), (q23_14, eI 81 c23_14 (fun _ => 0)), (q23_15, eI 81 c23_15 prI), (q23_16, eI 81 c23_16 prS)] H := hP
  have hD : va_D A [(b, .inr (3, [.ref q6, .ref q13, .null, .null, .int 0, .int 0, .int 0, .int 0])), (q6, eI 2 c6 (fun _ => 0)), (q13, eI 2 c13 (fun _ => 0)), (q19, .inr (2, [.ref q23_6, .int 0, .int 0, .ref q23_2, .ref q23_7, .ref q23_8, .int 0, .long 0])), (q23_2, .inr (0, [.ref q23_9, .ref q23_10, .ref q23_11, .ref q23_12, .ref q23_13, .int 0, .long 0, .long 0, .ref q23_3, .ref q23_14])), (q23_3, .inr (1, [.ref q23_15, .ref q23_16])), (q23_6, eI 81 c23_6 (fun _ => 0)), (q23_7, eI 81 c23_7 (fun _ => 0)), (q23_8, eL 32 c23_8 (fun _ => 0)), (q23_9, eI 81 c23_9 (fun _ => 0)), (q23_10, eI 81 c23_10 (fun _ => 0)), (q23_11, eI 81 c23_11 (fun _ => 0)), (q23_12, eI 81 c23_12 (fun _ => 0)), (q23_13, eL 81 c23_13 (fun _ => 0)), (q23_14, eI 81 c23_14 (fun _ => 0)), (q23_15, eI 81 c23_15 prI), (q23_16, eI 81 c23_16 prS)] := hD
  refine va_putF (D := (dC, dI)) (ci := 3) (v := .ref q19) (ty := .object "CoverHouse$Search") (C := R_H) (T := F_H) (N := 8) hx hb hts (hin_of in_H) ft_H tk_H nm_H hown hK hP hD hS 0 rfl rfl 2 (by decide) (hw_of hts mw_181) (fun _ h9 => h9) rfl hin rfl (by decide +kernel) rfl rfl (Nat.le_of_ble_eq_true rfl) d_H_init_26 (fun H locs hP hD hS => ?_)
  have hP : va_P (dC, dI) vC [(b, .inr (3, [.ref q6, .ref q13, .ref q19, .null, .int 0, .int 0, .int 0, .int 0])), (q6, eI 2 c6 (fun _ => 0)), (q13, eI 2 c13 (fun _ => 0)), (q19, .inr (2, [.ref q23_6, .int 0, .int 0, .ref q23_2, .ref q23_7, .ref q23_8, .int 0, .long 0])), (q23_2, .inr (0, [.ref q23_9, .ref q23_10, .ref q23_11, .ref q23_12, .ref q23_13, .int 0, .long 0, .long 0, .ref q23_3, .ref q23_14])), (q23_3, .inr (1, [.ref q23_15, .ref q23_16])), (q23_6, eI 81 c23_6 (fun _ => 0)), (q23_7, eI 81 c23_7 (fun _ => 0)), (q23_8, eL 32 c23_8 (fun _ => 0)), (q23_9, eI 81 c23_9 (fun _ => 0)), (q23_10, eI 81 c23_10 (fun _ => 0)), (q23_11, eI 81 c23_11 (fun _ => 0)), (q23_12, eI 81 c23_12 (fun _ => 0)), (q23_13, eL 81 c23_13 (fun _ => 0)), (q23_14, eI 81 c23_14 (fun _ => 0)), (q23_15, eI 81 c23_15 prI), (q23_16, eI 81 c23_16 prS)] H := hP
  have hD : va_D A [(b, .inr (3, [.ref q6, .ref q13, .ref q19, .null, .int 0, .int 0, .int 0, .int 0])), (q6, eI 2 c6 (fun _ => 0)), (q13, eI 2 c13 (fun _ => 0)), (q19, .inr (2, [.ref q23_6, .int 0, .int 0, .ref q23_2, .ref q23_7, .ref q23_8, .int 0, .long 0])), (q23_2, .inr (0, [.ref q23_9, .ref q23_10, .ref q23_11, .ref q23_12, .ref q23_13, .int 0, .long 0, .long 0, .ref q23_3, .ref q23_14])), (q23_3, .inr (1, [.ref q23_15, .ref q23_16])), (q23_6, eI 81 c23_6 (fun _ => 0)), (q23_7, eI 81 c23_7 (fun _ => 0)), (q23_8, eL 32 c23_8 (fun _ => 0)), (q23_9, eI 81 c23_9 (fun _ => 0)), (q23_10, eI 81 c23_10 (fun _ => 0)), (q23_11, eI 81 c23_11 (fun _ => 0)), (q23_12, eI 81 c23_12 (fun _ => 0)), (q23_13, eL 81 c23_13 (fun _ => 0)), (q23_14, eI 81 c23_14 (fun _ => 0)), (q23_15, eI 81 c23_15 prI), (q23_16, eI 81 c23_16 prS)] := hD
  refine lv_aload_n hx hb d_H_init_29 rfl (lv_at hl 0 rfl) ?_
  refine lv_aload_n hx hb d_H_init_30 rfl (lv_at hl 0 rfl) ?_
  refine va_get (D := (dC, dI)) (ci := 3) (v := .ref q19) (C := R_H) (T := F_H) (N := 8) hx hb hts (hin_of in_H) hown hK hP 0 rfl rfl 2 (by decide) (hw_of hts mw_181) (fun _ h9 => h9) rfl d_H_init_31 ?_
  refine va_get (D := (dC, dI)) (ci := 2) (v := .ref q23_2) (C := R_S) (T := F_S) (N := 8) hx hb hts (hin_of in_S) hown hK hP 3 rfl rfl 3 (by decide) (hw_of hts mw_145) (fun _ h9 => h9) rfl d_H_init_34 ?_
  refine va_putF (D := (dC, dI)) (ci := 3) (v := .ref q23_2) (ty := .object "CoverHouse$Candidates") (C := R_H) (T := F_H) (N := 8) hx hb hts (hin_of in_H) ft_H tk_H nm_H hown hK hP hD hS 0 rfl rfl 3 (by decide) (hw_of hts mw_182) (fun _ h9 => h9) rfl hin rfl (by decide +kernel) rfl rfl (Nat.le_of_ble_eq_true rfl) d_H_init_37 (fun H locs hP hD hS => ?_)
  have hP : va_P (dC, dI) vC [(b, .inr (3, [.ref q6, .ref q13, .ref q19, .ref q23_2, .int 0, .int 0, .int 0, .int 0])), (q6, eI 2 c6 (fun _ => 0)), (q13, eI 2 c13 (fun _ => 0)), (q19, .inr (2, [.ref q23_6, .int 0, .int 0, .ref q23_2, .ref q23_7, .ref q23_8, .int 0, .long 0])), (q23_2, .inr (0, [.ref q23_9, .ref q23_10, .ref q23_11, .ref q23_12, .ref q23_13, .int 0, .long 0, .long 0, .ref q23_3, .ref q23_14])), (q23_3, .inr (1, [.ref q23_15, .ref q23_16])), (q23_6, eI 81 c23_6 (fun _ => 0)), (q23_7, eI 81 c23_7 (fun _ => 0)), (q23_8, eL 32 c23_8 (fun _ => 0)), (q23_9, eI 81 c23_9 (fun _ => 0)), (q23_10, eI 81 c23_10 (fun _ => 0)), (q23_11, eI 81 c23_11 (fun _ => 0)), (q23_12, eI 81 c23_12 (fun _ => 0)), (q23_13, eL 81 c23_13 (fun _ => 0)), (q23_14, eI 81 c23_14 (fun _ => 0)), (q23_15, eI 81 c23_15 prI), (q23_16, eI 81 c23_16 prS)] H := hP
  have hD : va_D A [(b, .inr (3, [.ref q6, .ref q13, .ref q19, .ref q23_2, .int 0, .int 0, .int 0, .int 0])), (q6, eI 2 c6 (fun _ => 0)), (q13, eI 2 c13 (fun _ => 0)), (q19, .inr (2, [.ref q23_6, .int 0, .int 0, .ref q23_2, .ref q23_7, .ref q23_8, .int 0, .long 0])), (q23_2, .inr (0, [.ref q23_9, .ref q23_10, .ref q23_11, .ref q23_12, .ref q23_13, .int 0, .long 0, .long 0, .ref q23_3, .ref q23_14])), (q23_3, .inr (1, [.ref q23_15, .ref q23_16])), (q23_6, eI 81 c23_6 (fun _ => 0)), (q23_7, eI 81 c23_7 (fun _ => 0)), (q23_8, eL 32 c23_8 (fun _ => 0)), (q23_9, eI 81 c23_9 (fun _ => 0)), (q23_10, eI 81 c23_10 (fun _ => 0)), (q23_11, eI 81 c23_11 (fun _ => 0)), (q23_12, eI 81 c23_12 (fun _ => 0)), (q23_13, eL 81 c23_13 (fun _ => 0)), (q23_14, eI 81 c23_14 (fun _ => 0)), (q23_15, eI 81 c23_15 prI), (q23_16, eI 81 c23_16 prS)] := hD
  obtain ⟨ad, e_0, e_4, e_5, e_1, e_2, e_3, e_6, e_7, e_8, e_9, e_10, e_11, e_12, e_13, e_14, e_15, e_16⟩ : ∃ ad : Nat → Nat, ad 0 = b ∧ ad 4 = q6 ∧ ad 5 = q13 ∧ ad 1 = q19 ∧ ad 2 = q23_2 ∧ ad 3 = q23_3 ∧ ad 6 = q23_6 ∧ ad 7 = q23_7 ∧ ad 8 = q23_8 ∧ ad 9 = q23_9 ∧ ad 10 = q23_10 ∧ ad 11 = q23_11 ∧ ad 12 = q23_12 ∧ ad 13 = q23_13 ∧ ad 14 = q23_14 ∧ ad 15 = q23_15 ∧ ad 16 = q23_16 := ⟨fun k => if k = 0 then b else if k = 4 then q6 else if k = 5 then q13 else if k = 1 then q19 else if k = 2 then q23_2 else if k = 3 then q23_3 else if k = 6 then q23_6 else if k = 7 then q23_7 else if k = 8 then q23_8 else if k = 9 then q23_9 else if k = 10 then q23_10 else if k = 11 then q23_11 else if k = 12 then q23_12 else if k = 13 then q23_13 else if k = 14 then q23_14 else if k = 15 then q23_15 else q23_16, rfl, rfl, rfl, rfl, rfl, rfl, rfl, rfl, rfl, rfl, rfl, rfl, rfl, rfl, rfl, rfl, rfl⟩
  obtain ⟨ca, f_4, f_5, f_6, f_7, f_8, f_9, f_10, f_11, f_12, f_13, f_14, f_15, f_16⟩ : ∃ ca : Nat → ClassId, ca 4 = c6 ∧ ca 5 = c13 ∧ ca 6 = c23_6 ∧ ca 7 = c23_7 ∧ ca 8 = c23_8 ∧ ca 9 = c23_9 ∧ ca 10 = c23_10 ∧ ca 11 = c23_11 ∧ ca 12 = c23_12 ∧ ca 13 = c23_13 ∧ ca 14 = c23_14 ∧ ca 15 = c23_15 ∧ ca 16 = c23_16 := ⟨fun k => if k = 4 then c6 else if k = 5 then c13 else if k = 6 then c23_6 else if k = 7 then c23_7 else if k = 8 then c23_8 else if k = 9 then c23_9 else if k = 10 then c23_10 else if k = 11 then c23_11 else if k = 12 then c23_12 else if k = 13 then c23_13 else if k = 14 then c23_14 else if k = 15 then c23_15 else c23_16, rfl, rfl, rfl, rfl, rfl, rfl, rfl, rfl, rfl, rfl, rfl, rfl, rfl⟩
  subst e_0
  subst e_4
  subst e_5
  subst e_1
  subst e_2
  subst e_3
  subst e_6
  subst e_7
  subst e_8
  subst e_9
  subst e_10
  subst e_11
  subst e_12
  subst e_13
  subst e_14
  subst e_15
  subst e_16
  subst f_4
  subst f_5
  subst f_6
  subst f_7
  subst f_8
  subst f_9
  subst f_10
  subst f_11
  subst f_12
  subst f_13
  subst f_14
  subst f_15
  subst f_16
  have hK0 : va_K (dC, dI) vC [(ca 4, .int), (ca 5, .int), (ca 6, .int), (ca 7, .int), (ca 8, .long), (ca 9, .int), (ca 10, .int), (ca 11, .int), (ca 12, .int), (ca 13, .long), (ca 14, .int), (ca 15, .int), (ca 16, .int)] s := hK
  have hK := hK0.sub (tys' := [(ca 4, .int), (ca 5, .int), (ca 6, .int), (ca 7, .int), (ca 8, .long), (ca 9, .int), (ca 10, .int), (ca 11, .int), (ca 12, .int), (ca 13, .long), (ca 14, .int), (ca 15, .int), (ca 16, .int)]) [0, 1, 2, 3, 4, 5, 6, 7, 8, 9, 10, 11, 12] rfl
  have hP : va_P (dC, dI) vC [(ad 0, eH ad 0 0 0 0), (ad 4, eI 2 (ca 4) (fun _ => 0)), (ad 5, eI 2 (ca 5) (fun _ => 0)), (ad 1, eS ad 0 0 0 0), (ad 2, eT ad 0 0 0), (ad 3, eP ad), (ad 6, eI 81 (ca 6) (fun _ => 0)), (ad 7, eI 81 (ca 7) (fun _ => 0)), (ad 8, eL 32 (ca 8) (fun _ => 0)), (ad 9, eI 81 (ca 9) (fun _ => 0)), (ad 10, eI 81 (ca 10) (fun _ => 0)), (ad 11, eI 81 (ca 11) (fun _ => 0)), (ad 12, eI 81 (ca 12) (fun _ => 0)), (ad 13, eL 81 (ca 13) (fun _ => 0)), (ad 14, eI 81 (ca 14) (fun _ => 0)), (ad 15, eI 81 (ca 15) prI), (ad 16, eI 81 (ca 16) prS)] H := hP
  have hD : va_D A [(ad 0, eH ad 0 0 0 0), (ad 4, eI 2 (ca 4) (fun _ => 0)), (ad 5, eI 2 (ca 5) (fun _ => 0)), (ad 1, eS ad 0 0 0 0), (ad 2, eT ad 0 0 0), (ad 3, eP ad), (ad 6, eI 81 (ca 6) (fun _ => 0)), (ad 7, eI 81 (ca 7) (fun _ => 0)), (ad 8, eL 32 (ca 8) (fun _ => 0)), (ad 9, eI 81 (ca 9) (fun _ => 0)), (ad 10, eI 81 (ca 10) (fun _ => 0)), (ad 11, eI 81 (ca 11) (fun _ => 0)), (ad 12, eI 81 (ca 12) (fun _ => 0)), (ad 13, eL 81 (ca 13) (fun _ => 0)), (ad 14, eI 81 (ca 14) (fun _ => 0)), (ad 15, eI 81 (ca 15) prI), (ad 16, eI 81 (ca 16) prS)] := hD
  refine lv_aload_n hx hb d_H_init_40 rfl (lv_at hl 0 rfl) ?_
  refine lv_iconst (v := 1) hx hb d_H_init_41 (by decide) ?_
  refine lv_iconst (v := 1) hx hb d_H_init_42 (by decide) ?_
  have hPc := hP.sub (ws' := [(ad 0, eH ad 0 0 0 0), (ad 4, eI 2 (ca 4) (fun _ => 0)), (ad 5, eI 2 (ca 5) (fun _ => 0))]) [0, 1, 2] rfl
  have hDc := hD.sub (ws' := [(ad 0, eH ad 0 0 0 0), (ad 4, eI 2 (ca 4) (fun _ => 0)), (ad 5, eI 2 (ca 5) (fun _ => 0))]) [0, 1, 2] (by decide) rfl
  have hKc := hK.sub (tys' := [(ca 4, .int), (ca 5, .int)]) [0, 1] rfl
  refine kw_callv (wr := [(ad 1, eS ad 0 0 0 0), (ad 2, eT ad 0 0 0), (ad 3, eP ad), (ad 6, eI 81 (ca 6) (fun _ => 0)), (ad 7, eI 81 (ca 7) (fun _ => 0)), (ad 8, eL 32 (ca 8) (fun _ => 0)), (ad 9, eI 81 (ca 9) (fun _ => 0)), (ad 10, eI 81 (ca 10) (fun _ => 0)), (ad 11, eI 81 (ca 11) (fun _ => 0)), (ad 12, eI 81 (ca 12) (fun _ => 0)), (ad 13, eL 81 (ca 13) (fun _ => 0)), (ad 14, eI 81 (ca 14) (fun _ => 0)), (ad 15, eI 81 (ca 15) prI), (ad 16, eI 81 (ca 16) prS)]) (wf := [(ad 0, eH ad 1 1 0 0), (ad 4, eI 2 (ca 4) (fo (mc_setf 0) 2 (fun _ => 0))), (ad 5, eI 2 (ca 5) (fo (mc_setf (mc_all 1)) 2 (fun _ => 0)))]) (va_runV (As := [.int 1, .int 1]) (rest := []) ⟨hx, hb, hml, hown, hts⟩ (c_restart l dC dI ad ca 0 0 0 0 (fun _ => 0) (fun _ => 0) 1 1 _) (cwV 2 hts (gd_V mw_167 mw_169 mw_1 mw_40 mw_170) rfl rfl rfl (by decide +kernel) ⟨Nat.le_of_ble_eq_true rfl, Nat.le_of_ble_eq_true rfl⟩) (kw_V (q0 := 0) (ci := 3) hKc hPc hDc rfl rfl) rfl rfl hl.1 rfl (lv_room (Nat.le_of_ble_eq_true rfl)) d_H_init_43 ⟨Nat.le_of_ble_eq_true rfl, Nat.le_of_ble_eq_true rfl⟩) hP hD hS hA [0, 1, 2] [3, 4, 5, 6, 7, 8, 9, 10, 11, 12, 13, 14, 15, 16] rfl rfl (by decide) (by decide) (fun H locs hP hD hS => ?_)
  have hP : va_P (dC, dI) vC [(ad 1, eS ad 0 0 0 0), (ad 2, eT ad 0 0 0), (ad 3, eP ad), (ad 6, eI 81 (ca 6) (fun _ => 0)), (ad 7, eI 81 (ca 7) (fun _ => 0)), (ad 8, eL 32 (ca 8) (fun _ => 0)), (ad 9, eI 81 (ca 9) (fun _ => 0)), (ad 10, eI 81 (ca 10) (fun _ => 0)), (ad 11, eI 81 (ca 11) (fun _ => 0)), (ad 12, eI 81 (ca 12) (fun _ => 0)), (ad 13, eL 81 (ca 13) (fun _ => 0)), (ad 14, eI 81 (ca 14) (fun _ => 0)), (ad 15, eI 81 (ca 15) prI), (ad 16, eI 81 (ca 16) prS), (ad 0, eH ad 1 1 0 0), (ad 4, eI 2 (ca 4) (fo (mc_setf 0) 2 (fun _ => 0))), (ad 5, eI 2 (ca 5) (fo (mc_setf (mc_all 1)) 2 (fun _ => 0)))] H := hP
  have hD : va_D A [(ad 1, eS ad 0 0 0 0), (ad 2, eT ad 0 0 0), (ad 3, eP ad), (ad 6, eI 81 (ca 6) (fun _ => 0)), (ad 7, eI 81 (ca 7) (fun _ => 0)), (ad 8, eL 32 (ca 8) (fun _ => 0)), (ad 9, eI 81 (ca 9) (fun _ => 0)), (ad 10, eI 81 (ca 10) (fun _ => 0)), (ad 11, eI 81 (ca 11) (fun _ => 0)), (ad 12, eI 81 (ca 12) (fun _ => 0)), (ad 13, eL 81 (ca 13) (fun _ => 0)), (ad 14, eI 81 (ca 14) (fun _ => 0)), (ad 15, eI 81 (ca 15) prI), (ad 16, eI 81 (ca 16) prS), (ad 0, eH ad 1 1 0 0), (ad 4, eI 2 (ca 4) (fo (mc_setf 0) 2 (fun _ => 0))), (ad 5, eI 2 (ca 5) (fo (mc_setf (mc_all 1)) 2 (fun _ => 0)))] := hD
  refine W.widen (k := 16) (n := 866) (by omega) (by omega) ?_
  exact W.vret hx hb hr (fun t ht hW => kw_endn (tysc := fun u => [(u.2 4, .int), (u.2 5, .int), (u.2 9, .int), (u.2 10, .int), (u.2 11, .int), (u.2 12, .int), (u.2 13, .long), (u.2 14, .int), (u.2 15, .int), (u.2 16, .int), (u.2 6, .int), (u.2 7, .int), (u.2 8, .long)]) (post := fun u => u.1 0 = ad 0) (w := fun u => [(u.1 0, eH u.1 1 1 0 0), (u.1 2, eT u.1 0 0 0), (u.1 3, eP u.1), (u.1 4, eI 2 (u.2 4) (fo (mc_setf 0) 2 (fun _ => 0))), (u.1 5, eI 2 (u.2 5) (fo (mc_setf (mc_all 1)) 2 (fun _ => 0))), (u.1 9, eI 81 (u.2 9) (fun _ => 0)), (u.1 10, eI 81 (u.2 10) (fun _ => 0)), (u.1 11, eI 81 (u.2 11) (fun _ => 0)), (u.1 12, eI 81 (u.2 12) (fun _ => 0)), (u.1 13, eL 81 (u.2 13) (fun _ => 0)), (u.1 14, eI 81 (u.2 14) (fun _ => 0)), (u.1 15, eI 81 (u.2 15) prI), (u.1 16, eI 81 (u.2 16) prS), (u.1 1, eS u.1 0 0 0 0), (u.1 6, eI 81 (u.2 6) (fun _ => 0)), (u.1 7, eI 81 (u.2 7) (fun _ => 0)), (u.1 8, eL 32 (u.2 8) (fun _ => 0))]) (ad, ca) rfl hP hD (hK0.sub (tys' := [(ca 4, .int), (ca 5, .int), (ca 9, .int), (ca 10, .int), (ca 11, .int), (ca 12, .int), (ca 13, .long), (ca 14, .int), (ca 15, .int), (ca 16, .int), (ca 6, .int), (ca 7, .int), (ca 8, .long)]) [0, 1, 5, 6, 7, 8, 9, 10, 11, 12, 2, 3, 4] rfl) hS [14, 1, 2, 15, 16, 6, 7, 8, 9, 10, 11, 12, 13, 0, 3, 4, 5] rfl (by decide) rfl ht hW.alike) hS.2.2 d_H_init_46
