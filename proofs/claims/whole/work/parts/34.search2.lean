set_option maxHeartbeats 4000000 in
set_option maxRecDepth 100000 in
theorem c_keepIfBetter (l : Launch) (dC : Nat → ClassId) (dI : Nat → Nat → Nat) (ad : Nat → Nat) (ca : Nat → ClassId) (pk : Int32) (pp : Int32) (bw : Int32) (bs : Int64) (wt : Int32) (sm : Int64) (sz : Nat) : Met l y_S_keepIfBetter w_S_keepIfBetter ({ frames := 1, cells := 0, slots := 0, locals := 27 }) (kw_P [.ref (ad 1), .int wt, .long sm] sz (dC, dI) vC [(ad 1, eS ad pk pp bw bs)] []) (kw_Qv (dC, dI) vC [] (va_A [(ad 1, eS ad pk pp bw bs)] sz) [(ad 1, eS ad pk pp ((m_keep wt sm (bw, bs)).1) ((m_keep wt sm (bw, bs)).2))]) 0 0 (va_A [(ad 1, eS ad pk pp bw bs)] sz) := by
  refine Met.ofW (cc := b_S_keepIfBetter) (maxL := 4) (ret := none) (by decide) rfl ?_
  intro p e s m args below meth c s₁ B hml hv
  obtain ⟨rfl, hsz, hP, hK, hD0⟩ := hv
  have hx := B.exec
  have hb := B.bytes
  have hr := B.returns
  have hts := atoms_spec (ws := w_S_keepIfBetter) B.pre
  have hlocks := B.notSynchronized
  have hown : s.vm.findClass R_S = some m.cls := findClass_of_methodNamed B.named
  subst hsz
  have hD := hD0.self (sz := s.heap.size)
  generalize hAe : va_A [(ad 1, eS ad pk pp bw bs)] s.heap.size = A at hD ⊢
  have hA : ∀ q : Nat, s.heap.size ≤ q → A q := fun q h => by rw [← hAe]; exact Or.inr h
  have hS : va_S A s.heap s.heap [] := va_S.rf
  have hP : va_P (dC, dI) vC [(ad 1, eS ad pk pp bw bs)] s.heap := hP
  have hl := lv_entry ([.ref (ad 1), .int wt, .long sm]) (n := 4) (Nat.le_of_ble_eq_true rfl)
  rw [lg_entry_eq]
  generalize (lg_sl ([.ref (ad 1), .int wt, .long sm]) ++ List.replicate (4 - (lg_sl ([.ref (ad 1), .int wt, .long sm])).length) Slot.unset).toArray = ls at hl ⊢
  have hl : lv_has ls 4 [(0, .ref (ad 1)), (1, .int wt), (2, .long sm)] := hl
  refine lv_aload_n hx hb d_S_keepIfBetter_0 rfl (lv_at hl 0 rfl) ?_
  refine lv_iload_n hx hb d_S_keepIfBetter_1 rfl (lv_at hl 1 rfl) ?_
  refine lv_lload_n hx hb d_S_keepIfBetter_2 rfl (lv_at hl 2 rfl) ?_
  have hPc := hP.sub (ws' := [(ad 1, eS ad pk pp bw bs)]) [0] rfl
  have hKc := hK.sub (tys' := []) [] rfl
  refine vp_callSi (W.runV (As := [.int wt, .long sm]) (rest := []) ⟨hx, hb, hml, hown, hts⟩ (c_isBetter l dC dI ad ca pk pp bw bs wt sm) (cwV 2 hts (gd_V mw_268 mw_270 mw_12 mw_41 mw_271) rfl rfl rfl (by decide +kernel) ⟨Nat.le_of_ble_eq_true rfl, Nat.le_of_ble_eq_true rfl⟩) (kr_V (q0 := 0) (ci := 2) hKc hPc rfl rfl) rfl rfl hl.1 rfl (lv_room (Nat.le_of_ble_eq_true rfl)) d_S_keepIfBetter_3 ⟨Nat.zero_le _, Nat.zero_le _⟩) (fun r hq => ?_)
  subst hq
  refine k_beq (b := (m_bet wt sm bw bs)) (tgt := 19) hx hb d_S_keepIfBetter_6 (by decide) (fun c_6 => ?_) (fun c_6 => ?_)
  · have e_1 : (m_keep wt sm (bw, bs)).1 = bw := by simp [m_keep, c_6]
    have e_2 : (m_keep wt sm (bw, bs)).2 = bs := by simp [m_keep, c_6]
    exact W.vret hx hb hr (fun t ht hW => by (try rw [e_1]); (try rw [e_2]); exact kw_endv hP hD hK hS [0] rfl (by decide) rfl ht hW.alike) hS.2.2 d_S_keepIfBetter_19
  · refine lv_aload_n hx hb d_S_keepIfBetter_9 rfl (lv_at hl 0 rfl) ?_
    refine lv_iload_n hx hb d_S_keepIfBetter_10 rfl (lv_at hl 1 rfl) ?_
    refine va_put (D := (dC, dI)) (ci := 2) (v := .int wt) (ty := .int) (C := R_S) (T := F_S) (N := 8) hx hb hts (hin_of in_S) ft_S tk_S nm_S hown hK hP hD hS 0 rfl rfl 6 (by decide) (hw_of hts mw_148) (fun _ h9 => h9) rfl (by decide +kernel) rfl rfl (Nat.le_of_ble_eq_true rfl) d_S_keepIfBetter_11 (fun H locs hP hD hS => ?_)
    have hP : va_P (dC, dI) vC [(ad 1, eS ad pk pp wt bs)] H := hP
    have hD : va_D A [(ad 1, eS ad pk pp wt bs)] := hD
    refine lv_aload_n hx hb d_S_keepIfBetter_14 rfl (lv_at hl 0 rfl) ?_
    refine lv_lload_n hx hb d_S_keepIfBetter_15 rfl (lv_at hl 2 rfl) ?_
    refine va_put (D := (dC, dI)) (ci := 2) (v := .long sm) (ty := .long) (C := R_S) (T := F_S) (N := 8) hx hb hts (hin_of in_S) ft_S tk_S nm_S hown hK hP hD hS 0 rfl rfl 7 (by decide) (hw_of hts mw_149) (fun _ h9 => h9) rfl (by decide +kernel) rfl rfl (Nat.le_of_ble_eq_true rfl) d_S_keepIfBetter_16 (fun H locs hP hD hS => ?_)
    have hP : va_P (dC, dI) vC [(ad 1, eS ad pk pp wt sm)] H := hP
    have hD : va_D A [(ad 1, eS ad pk pp wt sm)] := hD
    have e_3 : (m_keep wt sm (bw, bs)).1 = wt := by simp [m_keep, c_6]
    have e_4 : (m_keep wt sm (bw, bs)).2 = sm := by simp [m_keep, c_6]
    exact W.vret hx hb hr (fun t ht hW => by (try rw [e_3]); (try rw [e_4]); exact kw_endv hP hD hK hS [0] rfl (by decide) rfl ht hW.alike) hS.2.2 d_S_keepIfBetter_19
set_option maxHeartbeats 4000000 in
set_option maxRecDepth 100000 in
theorem c_listBest (l : Launch) (dC : Nat → ClassId) (dI : Nat → Nat → Nat) (ad : Nat → Nat) (ca : Nat → ClassId) (pk : Int32) (pp : Int32) (bw : Int32) (bs : Int64) (cn : Nat) (hc : cn ≤ 63) (due : Int64) (lon : Int64) (pic : Nat → Int32) (siz : Nat → Int32) (sz : Nat) : Met l y_S_listBest w_S_listBest ({ frames := 0, cells := 0, slots := 0, locals := 0 }) (kw_P [.ref (ad 1)] sz (dC, dI) vC [(ad 1, eS ad pk pp bw bs), (ad 2, eT ad (nI cn) due lon), (ad 6, eI 81 (ca 6) pic), (ad 11, eI 81 (ca 11) siz)] [(ca 6, .int), (ca 11, .int)]) (kw_Qv (dC, dI) vC [(ca 6, .int), (ca 11, .int)] (va_A [(ad 1, eS ad pk pp bw bs), (ad 2, eT ad (nI cn) due lon), (ad 6, eI 81 (ca 6) pic), (ad 11, eI 81 (ca 11) siz)] sz) [(ad 1, eS ad (nI ((fo (mc_lbf bs siz) cn (pic, 0, 0)).2.1)) ((fo (mc_lbf bs siz) cn (pic, 0, 0)).2.2) bw bs), (ad 2, eT ad (nI cn) due lon), (ad 6, eI 81 (ca 6) ((fo (mc_lbf bs siz) cn (pic, 0, 0)).1)), (ad 11, eI 81 (ca 11) siz)]) 0 0 (va_A [(ad 1, eS ad pk pp bw bs), (ad 2, eT ad (nI cn) due lon), (ad 6, eI 81 (ca 6) pic), (ad 11, eI 81 (ca 11) siz)] sz) := by
  refine Met.ofW (cc := b_S_listBest) (maxL := 2) (ret := none) (by decide) rfl ?_
  intro p e s m args below meth c s₁ B hml hv
  obtain ⟨rfl, hsz, hP, hK, hD0⟩ := hv
  have hx := B.exec
  have hb := B.bytes
  have hr := B.returns
  have hts := atoms_spec (ws := w_S_listBest) B.pre
  have hlocks := B.notSynchronized
  have hown : s.vm.findClass R_S = some m.cls := findClass_of_methodNamed B.named
  subst hsz
  have hD := hD0.self (sz := s.heap.size)
  generalize hAe : va_A [(ad 1, eS ad pk pp bw bs), (ad 2, eT ad (nI cn) due lon), (ad 6, eI 81 (ca 6) pic), (ad 11, eI 81 (ca 11) siz)] s.heap.size = A at hD ⊢
  have hA : ∀ q : Nat, s.heap.size ≤ q → A q := fun q h => by rw [← hAe]; exact Or.inr h
  have hS : va_S A s.heap s.heap [] := va_S.rf
  have hP : va_P (dC, dI) vC [(ad 1, eS ad pk pp bw bs), (ad 2, eT ad (nI cn) due lon), (ad 6, eI 81 (ca 6) pic), (ad 11, eI 81 (ca 11) siz)] s.heap := hP
  have hl := lv_entry ([.ref (ad 1)]) (n := 2) (Nat.le_of_ble_eq_true rfl)
  rw [lg_entry_eq]
  generalize (lg_sl ([.ref (ad 1)]) ++ List.replicate (2 - (lg_sl ([.ref (ad 1)])).length) Slot.unset).toArray = ls at hl ⊢
  have hl : lv_has ls 2 [(0, .ref (ad 1))] := hl
  refine lv_aload_n hx hb d_S_listBest_0 rfl (lv_at hl 0 rfl) ?_
  refine lv_iconst (v := 0) hx hb d_S_listBest_1 (by decide) ?_
  refine va_put (D := (dC, dI)) (ci := 2) (v := .int 0) (ty := .int) (C := R_S) (T := F_S) (N := 8) hx hb hts (hin_of in_S) ft_S tk_S nm_S hown hK hP hD hS 0 rfl rfl 1 (by decide) (hw_of hts mw_140) (fun _ h9 => h9) rfl (by decide +kernel) rfl rfl (Nat.le_of_ble_eq_true rfl) d_S_listBest_2 (fun H locs hP hD hS => ?_)
  have hP : va_P (dC, dI) vC [(ad 1, eS ad 0 pp bw bs), (ad 2, eT ad (nI cn) due lon), (ad 6, eI 81 (ca 6) pic), (ad 11, eI 81 (ca 11) siz)] H := hP
  have hD : va_D A [(ad 1, eS ad 0 pp bw bs), (ad 2, eT ad (nI cn) due lon), (ad 6, eI 81 (ca 6) pic), (ad 11, eI 81 (ca 11) siz)] := hD
  refine lv_aload_n hx hb d_S_listBest_5 rfl (lv_at hl 0 rfl) ?_
  refine lv_iconst (v := 0) hx hb d_S_listBest_6 (by decide) ?_
  refine va_put (D := (dC, dI)) (ci := 2) (v := .int 0) (ty := .int) (C := R_S) (T := F_S) (N := 8) hx hb hts (hin_of in_S) ft_S tk_S nm_S hown hK hP hD hS 0 rfl rfl 2 (by decide) (hw_of hts mw_142) (fun _ h9 => h9) rfl (by decide +kernel) rfl rfl (Nat.le_of_ble_eq_true rfl) d_S_listBest_7 (fun H locs hP hD hS => ?_)
  have hP : va_P (dC, dI) vC [(ad 1, eS ad 0 0 bw bs), (ad 2, eT ad (nI cn) due lon), (ad 6, eI 81 (ca 6) pic), (ad 11, eI 81 (ca 11) siz)] H := hP
  have hD : va_D A [(ad 1, eS ad 0 0 bw bs), (ad 2, eT ad (nI cn) due lon), (ad 6, eI 81 (ca 6) pic), (ad 11, eI 81 (ca 11) siz)] := hD
  refine lv_iconst (v := 0) hx hb d_S_listBest_10 (by decide) ?_
  refine lv_istore_n (lv' := [(1, .int 0), (0, .ref (ad 1))]) hx hb d_S_listBest_11 rfl hl (by decide) rfl (fun ls hl => ?_)
  refine k_loopH (fun iv H locs ls => lv_has ls 2 [(0, .ref (ad 1)), (1, .int (nI iv))] ∧ va_P (dC, dI) vC [(ad 1, eS ad (nI ((fo (mc_lbf bs siz) iv (pic, 0, 0)).2.1)) ((fo (mc_lbf bs siz) iv (pic, 0, 0)).2.2) bw bs), (ad 2, eT ad (nI cn) due lon), (ad 6, eI 81 (ca 6) ((fo (mc_lbf bs siz) iv (pic, 0, 0)).1)), (ad 11, eI 81 (ca 11) siz)] H ∧ va_D A [(ad 1, eS ad (nI ((fo (mc_lbf bs siz) iv (pic, 0, 0)).2.1)) ((fo (mc_lbf bs siz) iv (pic, 0, 0)).2.2) bw bs), (ad 2, eT ad (nI cn) due lon), (ad 6, eI 81 (ca 6) ((fo (mc_lbf bs siz) iv (pic, 0, 0)).1)), (ad 11, eI 81 (ca 11) siz)] ∧ va_S A s.heap H locs ∧ (fo (mc_lbf bs siz) iv (pic, 0, 0)).2.1 ≤ iv) cn ?_ 0 _ _ _ (Nat.zero_le _) ?_
  · intro iv H locs ls hiiv hI ihiv
    obtain ⟨hl, hP, hD, hS, hle⟩ := hI
    refine lv_iload_n hx hb d_S_listBest_12 rfl (lv_at hl 1 rfl) ?_
    refine lv_aload_n hx hb d_S_listBest_13 rfl (lv_at hl 0 rfl) ?_
    refine va_get (D := (dC, dI)) (ci := 2) (v := .ref (ad 2)) (C := R_S) (T := F_S) (N := 8) hx hb hts (hin_of in_S) hown hK hP 0 rfl rfl 3 (by decide) (hw_of hts mw_144) (fun _ h9 => h9) rfl d_S_listBest_14 ?_
    refine va_get (D := (dC, dI)) (ci := 0) (v := .int (nI cn)) (C := R_T) (T := F_T) (N := 10) hx hb hts (hin_of in_T) hown hK hP 1 rfl rfl 5 (by decide) (hw_of hts mw_109) (fun _ h9 => h9) rfl d_S_listBest_17 ?_
    refine k_ge (a := iv) (b := cn) (tgt := 89) hx hb rfl rfl (by omega) (by omega) d_S_listBest_20 (by decide) (fun c_20 => ?_) (fun c_20 => ?_)
    · obtain rfl : cn = iv := by omega
      exact W.vret hx hb hr (fun t ht hW => by exact kw_endv hP hD hK hS [0, 1, 2, 3] rfl (by decide) rfl ht hW.alike) hS.2.2 d_S_listBest_89
    · refine lv_aload_n hx hb d_S_listBest_23 rfl (lv_at hl 0 rfl) ?_
      refine va_get (D := (dC, dI)) (ci := 2) (v := .long bs) (C := R_S) (T := F_S) (N := 8) hx hb hts (hin_of in_S) hown hK hP 0 rfl rfl 7 (by decide) (hw_of hts mw_149) (fun _ h9 => h9) rfl d_S_listBest_24 ?_
      refine lv_iload_n hx hb d_S_listBest_27 rfl (lv_at hl 1 rfl) ?_
      refine k_bit (i := iv) (tgt := 83) hx hb rfl (by omega) d_S_listBest_28 d_S_listBest_29 d_S_listBest_30 d_S_listBest_31 d_S_listBest_32 d_S_listBest_33 (by decide) (fun b_28 => ?_) (fun b_28 => ?_)
      · refine lv_iinc (v := nI (iv + 1)) (lv' := [(1, .int (nI (iv + 1))), (0, .ref (ad 1))]) hx hb d_S_listBest_83 hl (k := 1) rfl (k_inc _) (by decide) rfl (fun ls hl => ?_)
        refine lv_goto (tgt := 12) hx hb d_S_listBest_86 (by decide) ?_
        refine ihiv _ _ _ (by omega) ?_
        have e_1 : nI ((fo (mc_lbf bs siz) (iv + 1) (pic, 0, 0)).2.1) = nI ((fo (mc_lbf bs siz) iv (pic, 0, 0)).2.1) := by simp [fo_s, mc_lbf, c_20, b_28]
        have e_2 : (fo (mc_lbf bs siz) (iv + 1) (pic, 0, 0)).2.2 = (fo (mc_lbf bs siz) iv (pic, 0, 0)).2.2 := by simp [fo_s, mc_lbf, c_20, b_28]
        have e_3 : (fo (mc_lbf bs siz) (iv + 1) (pic, 0, 0)).1 = (fo (mc_lbf bs siz) iv (pic, 0, 0)).1 := by simp [fo_s, mc_lbf, c_20, b_28]
        exact ⟨by (try rw [e_1]); (try rw [e_2]); (try rw [e_3]); exact lv_sub hl [1, 0] rfl, by (try rw [e_1]); (try rw [e_2]); (try rw [e_3]); exact hP, by (try rw [e_1]); (try rw [e_2]); (try rw [e_3]); exact hD, hS, (by simp [fo_s, mc_lbf, c_20, b_28]; omega)⟩
      · refine lv_aload_n hx hb d_S_listBest_36 rfl (lv_at hl 0 rfl) ?_
        refine va_get (D := (dC, dI)) (ci := 2) (v := .int (nI ((fo (mc_lbf bs siz) iv (pic, 0, 0)).2.1))) (C := R_S) (T := F_S) (N := 8) hx hb hts (hin_of in_S) hown hK hP 0 rfl rfl 1 (by decide) (hw_of hts mw_140) (fun _ h9 => h9) rfl d_S_listBest_37 ?_
        refine lv_bipush (v := 81) hx hb d_S_listBest_40 (by decide) ?_
        refine k_ge (a := (fo (mc_lbf bs siz) iv (pic, 0, 0)).2.1) (b := 81) (tgt := 83) hx hb rfl rfl (by omega) (by omega) d_S_listBest_42 (by decide) (fun c_42 => ?_) (fun c_42 => ?_)
        · exfalso; omega
        · refine lv_aload_n hx hb d_S_listBest_45 rfl (lv_at hl 0 rfl) ?_
          refine va_get (D := (dC, dI)) (ci := 2) (v := .ref (ad 6)) (C := R_S) (T := F_S) (N := 8) hx hb hts (hin_of in_S) hown hK hP 0 rfl rfl 0 (by decide) (hw_of hts mw_138) (fun _ h9 => h9) rfl d_S_listBest_46 ?_
          refine lv_aload_n hx hb d_S_listBest_49 rfl (lv_at hl 0 rfl) ?_
          refine va_get (D := (dC, dI)) (ci := 2) (v := .int (nI ((fo (mc_lbf bs siz) iv (pic, 0, 0)).2.1))) (C := R_S) (T := F_S) (N := 8) hx hb hts (hin_of in_S) hown hK hP 0 rfl rfl 1 (by decide) (hw_of hts mw_140) (fun _ h9 => h9) rfl d_S_listBest_50 ?_
          refine lv_iload_n hx hb d_S_listBest_53 rfl (lv_at hl 1 rfl) ?_
          refine k_iast (k := (fo (mc_lbf bs siz) iv (pic, 0, 0)).2.1) hx hb hK hP hD hS 2 0 rfl rfl rfl (by omega) (by decide) d_S_listBest_54 (fun H locs hP hD hS => ?_)
          have hP : va_P (dC, dI) vC [(ad 1, eS ad (nI ((fo (mc_lbf bs siz) iv (pic, 0, 0)).2.1)) ((fo (mc_lbf bs siz) iv (pic, 0, 0)).2.2) bw bs), (ad 2, eT ad (nI cn) due lon), (ad 6, eI 81 (ca 6) (upd ((fo (mc_lbf bs siz) iv (pic, 0, 0)).1) ((fo (mc_lbf bs siz) iv (pic, 0, 0)).2.1) (nI iv))), (ad 11, eI 81 (ca 11) siz)] H := hP
          have hD : va_D A [(ad 1, eS ad (nI ((fo (mc_lbf bs siz) iv (pic, 0, 0)).2.1)) ((fo (mc_lbf bs siz) iv (pic, 0, 0)).2.2) bw bs), (ad 2, eT ad (nI cn) due lon), (ad 6, eI 81 (ca 6) (upd ((fo (mc_lbf bs siz) iv (pic, 0, 0)).1) ((fo (mc_lbf bs siz) iv (pic, 0, 0)).2.1) (nI iv))), (ad 11, eI 81 (ca 11) siz)] := hD
          refine lv_aload_n hx hb d_S_listBest_55 rfl (lv_at hl 0 rfl) ?_
          refine lv_dup hx hb d_S_listBest_56 rfl ?_
          refine va_get (D := (dC, dI)) (ci := 2) (v := .int (nI ((fo (mc_lbf bs siz) iv (pic, 0, 0)).2.1))) (C := R_S) (T := F_S) (N := 8) hx hb hts (hin_of in_S) hown hK hP 0 rfl rfl 1 (by decide) (hw_of hts mw_140) (fun _ h9 => h9) rfl d_S_listBest_57 ?_
          refine lv_iconst (v := 1) hx hb d_S_listBest_60 (by decide) ?_
          refine k_iadd (a := (fo (mc_lbf bs siz) iv (pic, 0, 0)).2.1) (b := 1) hx hb rfl rfl d_S_listBest_61 ?_
          refine va_put (D := (dC, dI)) (ci := 2) (v := .int (nI (((fo (mc_lbf bs siz) iv (pic, 0, 0)).2.1) + 1))) (ty := .int) (C := R_S) (T := F_S) (N := 8) hx hb hts (hin_of in_S) ft_S tk_S nm_S hown hK hP hD hS 0 rfl rfl 1 (by decide) (hw_of hts mw_140) (fun _ h9 => h9) rfl (by decide +kernel) rfl rfl (Nat.le_of_ble_eq_true rfl) d_S_listBest_62 (fun H locs hP hD hS => ?_)
          have hP : va_P (dC, dI) vC [(ad 1, eS ad (nI (((fo (mc_lbf bs siz) iv (pic, 0, 0)).2.1) + 1)) ((fo (mc_lbf bs siz) iv (pic, 0, 0)).2.2) bw bs), (ad 2, eT ad (nI cn) due lon), (ad 6, eI 81 (ca 6) (upd ((fo (mc_lbf bs siz) iv (pic, 0, 0)).1) ((fo (mc_lbf bs siz) iv (pic, 0, 0)).2.1) (nI iv))), (ad 11, eI 81 (ca 11) siz)] H := hP
          have hD : va_D A [(ad 1, eS ad (nI (((fo (mc_lbf bs siz) iv (pic, 0, 0)).2.1) + 1)) ((fo (mc_lbf bs siz) iv (pic, 0, 0)).2.2) bw bs), (ad 2, eT ad (nI cn) due lon), (ad 6, eI 81 (ca 6) (upd ((fo (mc_lbf bs siz) iv (pic, 0, 0)).1) ((fo (mc_lbf bs siz) iv (pic, 0, 0)).2.1) (nI iv))), (ad 11, eI 81 (ca 11) siz)] := hD
          refine lv_aload_n hx hb d_S_listBest_65 rfl (lv_at hl 0 rfl) ?_
          refine lv_dup hx hb d_S_listBest_66 rfl ?_
          refine va_get (D := (dC, dI)) (ci := 2) (v := .int ((fo (mc_lbf bs siz) iv (pic, 0, 0)).2.2)) (C := R_S) (T := F_S) (N := 8) hx hb hts (hin_of in_S) hown hK hP 0 rfl rfl 2 (by decide) (hw_of hts mw_142) (fun _ h9 => h9) rfl d_S_listBest_67 ?_
          refine lv_aload_n hx hb d_S_listBest_70 rfl (lv_at hl 0 rfl) ?_
          refine va_get (D := (dC, dI)) (ci := 2) (v := .ref (ad 2)) (C := R_S) (T := F_S) (N := 8) hx hb hts (hin_of in_S) hown hK hP 0 rfl rfl 3 (by decide) (hw_of hts mw_144) (fun _ h9 => h9) rfl d_S_listBest_71 ?_
          refine va_get (D := (dC, dI)) (ci := 0) (v := .ref (ad 11)) (C := R_T) (T := F_T) (N := 10) hx hb hts (hin_of in_T) hown hK hP 1 rfl rfl 2 (by decide) (hw_of hts mw_102) (fun _ h9 => h9) rfl d_S_listBest_74 ?_
          refine lv_iload_n hx hb d_S_listBest_77 rfl (lv_at hl 1 rfl) ?_
          refine k_iald (k := iv) hx hb hK hP 3 1 rfl rfl rfl (by omega) (by decide) d_S_listBest_78 ?_
          refine lv_iadd hx hb d_S_listBest_79 ?_
          refine va_put (D := (dC, dI)) (ci := 2) (v := .int (((fo (mc_lbf bs siz) iv (pic, 0, 0)).2.2) + (siz iv))) (ty := .int) (C := R_S) (T := F_S) (N := 8) hx hb hts (hin_of in_S) ft_S tk_S nm_S hown hK hP hD hS 0 rfl rfl 2 (by decide) (hw_of hts mw_142) (fun _ h9 => h9) rfl (by decide +kernel) rfl rfl (Nat.le_of_ble_eq_true rfl) d_S_listBest_80 (fun H locs hP hD hS => ?_)
          have hP : va_P (dC, dI) vC [(ad 1, eS ad (nI (((fo (mc_lbf bs siz) iv (pic, 0, 0)).2.1) + 1)) (((fo (mc_lbf bs siz) iv (pic, 0, 0)).2.2) + (siz iv)) bw bs), (ad 2, eT ad (nI cn) due lon), (ad 6, eI 81 (ca 6) (upd ((fo (mc_lbf bs siz) iv (pic, 0, 0)).1) ((fo (mc_lbf bs siz) iv (pic, 0, 0)).2.1) (nI iv))), (ad 11, eI 81 (ca 11) siz)] H := hP
          have hD : va_D A [(ad 1, eS ad (nI (((fo (mc_lbf bs siz) iv (pic, 0, 0)).2.1) + 1)) (((fo (mc_lbf bs siz) iv (pic, 0, 0)).2.2) + (siz iv)) bw bs), (ad 2, eT ad (nI cn) due lon), (ad 6, eI 81 (ca 6) (upd ((fo (mc_lbf bs siz) iv (pic, 0, 0)).1) ((fo (mc_lbf bs siz) iv (pic, 0, 0)).2.1) (nI iv))), (ad 11, eI 81 (ca 11) siz)] := hD
          refine lv_iinc (v := nI (iv + 1)) (lv' := [(1, .int (nI (iv + 1))), (0, .ref (ad 1))]) hx hb d_S_listBest_83 hl (k := 1) rfl (k_inc _) (by decide) rfl (fun ls hl => ?_)
          refine lv_goto (tgt := 12) hx hb d_S_listBest_86 (by decide) ?_
          refine ihiv _ _ _ (by omega) ?_
          have e_4 : nI ((fo (mc_lbf bs siz) (iv + 1) (pic, 0, 0)).2.1) = nI (((fo (mc_lbf bs siz) iv (pic, 0, 0)).2.1) + 1) := by simp [fo_s, mc_lbf, c_20, b_28, c_42]
          have e_5 : (fo (mc_lbf bs siz) (iv + 1) (pic, 0, 0)).2.2 = ((fo (mc_lbf bs siz) iv (pic, 0, 0)).2.2) + (siz iv) := by simp [fo_s, mc_lbf, c_20, b_28, c_42]
          have e_6 : (fo (mc_lbf bs siz) (iv + 1) (pic, 0, 0)).1 = upd ((fo (mc_lbf bs siz) iv (pic, 0, 0)).1) ((fo (mc_lbf bs siz) iv (pic, 0, 0)).2.1) (nI iv) := by simp [fo_s, mc_lbf, c_20, b_28, c_42]
          exact ⟨by (try rw [e_4]); (try rw [e_5]); (try rw [e_6]); exact lv_sub hl [1, 0] rfl, by (try rw [e_4]); (try rw [e_5]); (try rw [e_6]); exact hP, by (try rw [e_4]); (try rw [e_5]); (try rw [e_6]); exact hD, hS, (by simp [fo_s, mc_lbf, c_20, b_28, c_42]; omega)⟩
  · have hdone : True := trivial
    have e_7 : nI 0 = 0 := rfl
    have e_8 : nI ((fo (mc_lbf bs siz) 0 (pic, 0, 0)).2.1) = 0 := rfl
    have e_9 : (fo (mc_lbf bs siz) 0 (pic, 0, 0)).2.2 = 0 := rfl
    have e_10 : (fo (mc_lbf bs siz) 0 (pic, 0, 0)).1 = pic := rfl
    exact ⟨by (try rw [e_7]); (try rw [e_8]); (try rw [e_9]); (try rw [e_10]); exact lv_sub hl [1, 0] rfl, by (try rw [e_7]); (try rw [e_8]); (try rw [e_9]); (try rw [e_10]); exact hP, by (try rw [e_7]); (try rw [e_8]); (try rw [e_9]); (try rw [e_10]); exact hD, hS, Nat.le_refl 0⟩
set_option maxHeartbeats 4000000 in
set_option maxRecDepth 100000 in
theorem c_makesOne (l : Launch) (dC : Nat → ClassId) (dI : Nat → Nat → Nat) (ad : Nat → Nat) (ca : Nat → ClassId) (pk : Int32) (pp : Int32) (bw : Int32) (bs : Int64) (cn : Nat) (hc : cn ≤ 63) (due : Int64) (lon : Int64) (out : Nat → Int32) (inp : Nat → Int32) (oo : Int32) (xx : Int32) : Met l y_S_makesOne w_S_makesOne ({ frames := 0, cells := 0, slots := 0, locals := 0 }) (kr_P [.ref (ad 1), .int oo, .int xx] (dC, dI) vC [(ad 1, eS ad pk pp bw bs), (ad 2, eT ad (nI cn) due lon), (ad 10, eI 81 (ca 10) out), (ad 12, eI 81 (ca 12) inp)] [(ca 10, .int), (ca 12, .int)]) (vp_Si (fun r => r = if (exn cn (mc_oneP bs out inp oo xx)) = true then 1 else 0)) 0 0 (fun _ => False) := by
  refine Met.ofW (cc := b_S_makesOne) (maxL := 6) (ret := (some .boolean)) (by decide) rfl ?_
  intro p e s m args below meth c s₁ B hml hv
  obtain ⟨rfl, hP, hK⟩ := hv
  have hx := B.exec
  have hb := B.bytes
  have hr := B.returns
  have hts := atoms_spec (ws := w_S_makesOne) B.pre
  have hlocks := B.notSynchronized
  have hown : s.vm.findClass R_S = some m.cls := findClass_of_methodNamed B.named
  have hl := lv_entry ([.ref (ad 1), .int oo, .int xx]) (n := 6) (Nat.le_of_ble_eq_true rfl)
  rw [lg_entry_eq]
  generalize (lg_sl ([.ref (ad 1), .int oo, .int xx]) ++ List.replicate (6 - (lg_sl ([.ref (ad 1), .int oo, .int xx])).length) Slot.unset).toArray = ls at hl ⊢
  have hl : lv_has ls 6 [(0, .ref (ad 1)), (1, .int oo), (2, .int xx)] := hl
  refine lv_iconst (v := 0) hx hb d_S_makesOne_0 (by decide) ?_
  refine lv_istore_n (lv' := [(3, .int 0), (0, .ref (ad 1)), (1, .int oo), (2, .int xx)]) hx hb d_S_makesOne_1 rfl hl (by decide) rfl (fun ls hl => ?_)
  refine k_loopR (fun iv ls => lv_has ls 6 [(0, .ref (ad 1)), (1, .int oo), (2, .int xx), (3, .int (nI iv))] ∧ ∀ a, a < iv → mc_oneP bs out inp oo xx a = false) cn ?_ 0 _ (Nat.zero_le _) ?_
  · intro iv ls hiiv hI ihiv
    obtain ⟨hl, hno⟩ := hI
    refine lv_iload_n hx hb d_S_makesOne_2 rfl (lv_at hl 3 rfl) ?_
    refine lv_aload_n hx hb d_S_makesOne_3 rfl (lv_at hl 0 rfl) ?_
    refine va_get (D := (dC, dI)) (ci := 2) (v := .ref (ad 2)) (C := R_S) (T := F_S) (N := 8) hx hb hts (hin_of in_S) hown hK hP 0 rfl rfl 3 (by decide) (hw_of hts mw_144) (fun _ h9 => h9) rfl d_S_makesOne_4 ?_
    refine va_get (D := (dC, dI)) (ci := 0) (v := .int (nI cn)) (C := R_T) (T := F_T) (N := 10) hx hb hts (hin_of in_T) hown hK hP 1 rfl rfl 5 (by decide) (hw_of hts mw_109) (fun _ h9 => h9) rfl d_S_makesOne_7 ?_
    refine k_ge (a := iv) (b := cn) (tgt := 90) hx hb rfl rfl (by omega) (by omega) d_S_makesOne_10 (by decide) (fun c_10 => ?_) (fun c_10 => ?_)
    · obtain rfl : cn = iv := by omega
      refine lv_iconst (v := 0) hx hb d_S_makesOne_90 (by decide) ?_
      exact W.zret (v := 0) hx hb hr rfl (fun t ht hW => ⟨0, rfl, by rw [exn_false hno]; rfl, ht⟩) (fun q h => by cases h) d_S_makesOne_91
    · refine lv_aload_n hx hb d_S_makesOne_13 rfl (lv_at hl 0 rfl) ?_
      refine va_get (D := (dC, dI)) (ci := 2) (v := .long bs) (C := R_S) (T := F_S) (N := 8) hx hb hts (hin_of in_S) hown hK hP 0 rfl rfl 7 (by decide) (hw_of hts mw_149) (fun _ h9 => h9) rfl d_S_makesOne_14 ?_
      refine lv_iload_n hx hb d_S_makesOne_17 rfl (lv_at hl 3 rfl) ?_
      refine k_bit (i := iv) (tgt := 30) hx hb rfl (by omega) d_S_makesOne_18 d_S_makesOne_19 d_S_makesOne_20 d_S_makesOne_21 d_S_makesOne_22 d_S_makesOne_23 (by decide) (fun b_18 => ?_) (fun b_18 => ?_)
      · refine lv_iconst (v := 0) hx hb d_S_makesOne_30 (by decide) ?_
        refine lv_istore (lv' := [(4, .int 0), (0, .ref (ad 1)), (1, .int oo), (2, .int xx), (3, .int (nI iv))]) hx hb d_S_makesOne_31 hl (by decide) rfl (fun ls hl => ?_)
        refine lv_aload_n hx hb d_S_makesOne_33 rfl (lv_at hl 1 rfl) ?_
        refine va_get (D := (dC, dI)) (ci := 2) (v := .ref (ad 2)) (C := R_S) (T := F_S) (N := 8) hx hb hts (hin_of in_S) hown hK hP 0 rfl rfl 3 (by decide) (hw_of hts mw_144) (fun _ h9 => h9) rfl d_S_makesOne_34 ?_
        refine va_get (D := (dC, dI)) (ci := 0) (v := .ref (ad 10)) (C := R_T) (T := F_T) (N := 10) hx hb hts (hin_of in_T) hown hK hP 1 rfl rfl 1 (by decide) (hw_of hts mw_99) (fun _ h9 => h9) rfl d_S_makesOne_37 ?_
        refine lv_iload_n hx hb d_S_makesOne_40 rfl (lv_at hl 4 rfl) ?_
        refine k_iald (k := iv) hx hb hK hP 2 0 rfl rfl rfl (by omega) (by decide) d_S_makesOne_41 ?_
        refine lv_iload_n hx hb d_S_makesOne_42 rfl (lv_at hl 2 rfl) ?_
        refine lv_ishr hx hb d_S_makesOne_43 ?_
        refine lv_iconst (v := 1) hx hb d_S_makesOne_44 (by decide) ?_
        refine lv_iand hx hb d_S_makesOne_45 ?_
        refine lv_if_eq (tgt := 53) hx hb d_S_makesOne_46 (by decide) (fun c_46 => ?_) (fun c_46 => ?_)
        · refine lv_iconst (v := 0) hx hb d_S_makesOne_53 (by decide) ?_
          refine lv_istore (lv' := [(5, .int 0), (4, .int 0), (0, .ref (ad 1)), (1, .int oo), (2, .int xx), (3, .int (nI iv))]) hx hb d_S_makesOne_54 hl (by decide) rfl (fun ls hl => ?_)
          refine lv_iload hx hb d_S_makesOne_56 (lv_at hl 1 rfl) ?_
          refine lv_if_eq (tgt := 84) hx hb d_S_makesOne_58 (by decide) (fun _ => ?_) (fun h => absurd (by decide) h)
          refine lv_iinc (v := nI (iv + 1)) (lv' := [(3, .int (nI (iv + 1))), (5, .int 0), (4, .int 0), (0, .ref (ad 1)), (1, .int oo), (2, .int xx)]) hx hb d_S_makesOne_84 hl (k := 5) rfl (k_inc _) (by decide) rfl (fun ls hl => ?_)
          refine lv_goto (tgt := 2) hx hb d_S_makesOne_87 (by decide) ?_
          refine ihiv _ (by omega) ?_
          exact ⟨lv_sub hl [3, 4, 5, 0] rfl, lt_s hno (by unfold mc_oneP; (first | rw [decide_eq_true c_10] | rw [decide_eq_false c_10] | rw [decide_eq_false (Nat.not_lt.mpr c_10)] | rw [decide_eq_false (Nat.not_le.mpr c_10)] | rw [c_10] | skip); (first | rw [decide_eq_true b_18] | rw [decide_eq_false b_18] | rw [decide_eq_false (Nat.not_lt.mpr b_18)] | rw [decide_eq_false (Nat.not_le.mpr b_18)] | rw [b_18] | skip); (first | rw [decide_eq_true c_46] | rw [decide_eq_false c_46] | rw [decide_eq_false (Nat.not_lt.mpr c_46)] | rw [decide_eq_false (Nat.not_le.mpr c_46)] | rw [c_46] | skip); simp)⟩
        · refine lv_iconst (v := 1) hx hb d_S_makesOne_49 (by decide) ?_
          refine lv_goto (tgt := 54) hx hb d_S_makesOne_50 (by decide) ?_
          refine lv_istore (lv' := [(5, .int 1), (4, .int 0), (0, .ref (ad 1)), (1, .int oo), (2, .int xx), (3, .int (nI iv))]) hx hb d_S_makesOne_54 hl (by decide) rfl (fun ls hl => ?_)
          refine lv_iload hx hb d_S_makesOne_56 (lv_at hl 1 rfl) ?_
          refine lv_if_eq (tgt := 84) hx hb d_S_makesOne_58 (by decide) (fun _ => ?_) (fun h => absurd (by decide) h)
          refine lv_iinc (v := nI (iv + 1)) (lv' := [(3, .int (nI (iv + 1))), (5, .int 1), (4, .int 0), (0, .ref (ad 1)), (1, .int oo), (2, .int xx)]) hx hb d_S_makesOne_84 hl (k := 5) rfl (k_inc _) (by decide) rfl (fun ls hl => ?_)
          refine lv_goto (tgt := 2) hx hb d_S_makesOne_87 (by decide) ?_
          refine ihiv _ (by omega) ?_
          exact ⟨lv_sub hl [3, 4, 5, 0] rfl, lt_s hno (by unfold mc_oneP; (first | rw [decide_eq_true c_10] | rw [decide_eq_false c_10] | rw [decide_eq_false (Nat.not_lt.mpr c_10)] | rw [decide_eq_false (Nat.not_le.mpr c_10)] | rw [c_10] | skip); (first | rw [decide_eq_true b_18] | rw [decide_eq_false b_18] | rw [decide_eq_false (Nat.not_lt.mpr b_18)] | rw [decide_eq_false (Nat.not_le.mpr b_18)] | rw [b_18] | skip); (first | rw [decide_eq_true c_46] | rw [decide_eq_false c_46] | rw [decide_eq_false (Nat.not_lt.mpr c_46)] | rw [decide_eq_false (Nat.not_le.mpr c_46)] | rw [c_46] | skip); simp)⟩
      · refine lv_iconst (v := 1) hx hb d_S_makesOne_26 (by decide) ?_
        refine lv_goto (tgt := 31) hx hb d_S_makesOne_27 (by decide) ?_
        refine lv_istore (lv' := [(4, .int 1), (0, .ref (ad 1)), (1, .int oo), (2, .int xx), (3, .int (nI iv))]) hx hb d_S_makesOne_31 hl (by decide) rfl (fun ls hl => ?_)
        refine lv_aload_n hx hb d_S_makesOne_33 rfl (lv_at hl 1 rfl) ?_
        refine va_get (D := (dC, dI)) (ci := 2) (v := .ref (ad 2)) (C := R_S) (T := F_S) (N := 8) hx hb hts (hin_of in_S) hown hK hP 0 rfl rfl 3 (by decide) (hw_of hts mw_144) (fun _ h9 => h9) rfl d_S_makesOne_34 ?_
        refine va_get (D := (dC, dI)) (ci := 0) (v := .ref (ad 10)) (C := R_T) (T := F_T) (N := 10) hx hb hts (hin_of in_T) hown hK hP 1 rfl rfl 1 (by decide) (hw_of hts mw_99) (fun _ h9 => h9) rfl d_S_makesOne_37 ?_
        refine lv_iload_n hx hb d_S_makesOne_40 rfl (lv_at hl 4 rfl) ?_
        refine k_iald (k := iv) hx hb hK hP 2 0 rfl rfl rfl (by omega) (by decide) d_S_makesOne_41 ?_
        refine lv_iload_n hx hb d_S_makesOne_42 rfl (lv_at hl 2 rfl) ?_
        refine lv_ishr hx hb d_S_makesOne_43 ?_
        refine lv_iconst (v := 1) hx hb d_S_makesOne_44 (by decide) ?_
        refine lv_iand hx hb d_S_makesOne_45 ?_
        refine lv_if_eq (tgt := 53) hx hb d_S_makesOne_46 (by decide) (fun c_46 => ?_) (fun c_46 => ?_)
        · refine lv_iconst (v := 0) hx hb d_S_makesOne_53 (by decide) ?_
          refine lv_istore (lv' := [(5, .int 0), (4, .int 1), (0, .ref (ad 1)), (1, .int oo), (2, .int xx), (3, .int (nI iv))]) hx hb d_S_makesOne_54 hl (by decide) rfl (fun ls hl => ?_)
          refine lv_iload hx hb d_S_makesOne_56 (lv_at hl 1 rfl) ?_
          refine lv_if_eq (tgt := 84) hx hb d_S_makesOne_58 (by decide) (fun h => absurd h (by decide)) (fun _ => ?_)
          refine lv_iload hx hb d_S_makesOne_61 (lv_at hl 0 rfl) ?_
          refine lv_if_eq (tgt := 84) hx hb d_S_makesOne_63 (by decide) (fun _ => ?_) (fun h => absurd (by decide) h)
          refine lv_iinc (v := nI (iv + 1)) (lv' := [(3, .int (nI (iv + 1))), (5, .int 0), (4, .int 1), (0, .ref (ad 1)), (1, .int oo), (2, .int xx)]) hx hb d_S_makesOne_84 hl (k := 5) rfl (k_inc _) (by decide) rfl (fun ls hl => ?_)
          refine lv_goto (tgt := 2) hx hb d_S_makesOne_87 (by decide) ?_
          refine ihiv _ (by omega) ?_
          exact ⟨lv_sub hl [3, 4, 5, 0] rfl, lt_s hno (by unfold mc_oneP; (first | rw [decide_eq_true c_10] | rw [decide_eq_false c_10] | rw [decide_eq_false (Nat.not_lt.mpr c_10)] | rw [decide_eq_false (Nat.not_le.mpr c_10)] | rw [c_10] | skip); (first | rw [decide_eq_true b_18] | rw [decide_eq_false b_18] | rw [decide_eq_false (Nat.not_lt.mpr b_18)] | rw [decide_eq_false (Nat.not_le.mpr b_18)] | rw [b_18] | skip); (first | rw [decide_eq_true c_46] | rw [decide_eq_false c_46] | rw [decide_eq_false (Nat.not_lt.mpr c_46)] | rw [decide_eq_false (Nat.not_le.mpr c_46)] | rw [c_46] | skip); simp)⟩
        · refine lv_iconst (v := 1) hx hb d_S_makesOne_49 (by decide) ?_
          refine lv_goto (tgt := 54) hx hb d_S_makesOne_50 (by decide) ?_
          refine lv_istore (lv' := [(5, .int 1), (4, .int 1), (0, .ref (ad 1)), (1, .int oo), (2, .int xx), (3, .int (nI iv))]) hx hb d_S_makesOne_54 hl (by decide) rfl (fun ls hl => ?_)
          refine lv_iload hx hb d_S_makesOne_56 (lv_at hl 1 rfl) ?_
          refine lv_if_eq (tgt := 84) hx hb d_S_makesOne_58 (by decide) (fun h => absurd h (by decide)) (fun _ => ?_)
          refine lv_iload hx hb d_S_makesOne_61 (lv_at hl 0 rfl) ?_
          refine lv_if_eq (tgt := 84) hx hb d_S_makesOne_63 (by decide) (fun h => absurd h (by decide)) (fun _ => ?_)
          refine lv_aload_n hx hb d_S_makesOne_66 rfl (lv_at hl 2 rfl) ?_
          refine va_get (D := (dC, dI)) (ci := 2) (v := .ref (ad 2)) (C := R_S) (T := F_S) (N := 8) hx hb hts (hin_of in_S) hown hK hP 0 rfl rfl 3 (by decide) (hw_of hts mw_144) (fun _ h9 => h9) rfl d_S_makesOne_67 ?_
          refine va_get (D := (dC, dI)) (ci := 0) (v := .ref (ad 12)) (C := R_T) (T := F_T) (N := 10) hx hb hts (hin_of in_T) hown hK hP 1 rfl rfl 3 (by decide) (hw_of hts mw_105) (fun _ h9 => h9) rfl d_S_makesOne_70 ?_
          refine lv_iload_n hx hb d_S_makesOne_73 rfl (lv_at hl 5 rfl) ?_
          refine k_iald (k := iv) hx hb hK hP 3 1 rfl rfl rfl (by omega) (by decide) d_S_makesOne_74 ?_
          refine lv_iload_n hx hb d_S_makesOne_75 rfl (lv_at hl 4 rfl) ?_
          refine lv_ishr hx hb d_S_makesOne_76 ?_
          refine lv_iconst (v := 1) hx hb d_S_makesOne_77 (by decide) ?_
          refine lv_iand hx hb d_S_makesOne_78 ?_
          refine lv_if_eq (tgt := 84) hx hb d_S_makesOne_79 (by decide) (fun c_79 => ?_) (fun c_79 => ?_)
          · refine lv_iinc (v := nI (iv + 1)) (lv' := [(3, .int (nI (iv + 1))), (5, .int 1), (4, .int 1), (0, .ref (ad 1)), (1, .int oo), (2, .int xx)]) hx hb d_S_makesOne_84 hl (k := 5) rfl (k_inc _) (by decide) rfl (fun ls hl => ?_)
            refine lv_goto (tgt := 2) hx hb d_S_makesOne_87 (by decide) ?_
            refine ihiv _ (by omega) ?_
            exact ⟨lv_sub hl [3, 4, 5, 0] rfl, lt_s hno (by unfold mc_oneP; (first | rw [decide_eq_true c_10] | rw [decide_eq_false c_10] | rw [decide_eq_false (Nat.not_lt.mpr c_10)] | rw [decide_eq_false (Nat.not_le.mpr c_10)] | rw [c_10] | skip); (first | rw [decide_eq_true b_18] | rw [decide_eq_false b_18] | rw [decide_eq_false (Nat.not_lt.mpr b_18)] | rw [decide_eq_false (Nat.not_le.mpr b_18)] | rw [b_18] | skip); (first | rw [decide_eq_true c_46] | rw [decide_eq_false c_46] | rw [decide_eq_false (Nat.not_lt.mpr c_46)] | rw [decide_eq_false (Nat.not_le.mpr c_46)] | rw [c_46] | skip); (first | rw [decide_eq_true c_79] | rw [decide_eq_false c_79] | rw [decide_eq_false (Nat.not_lt.mpr c_79)] | rw [decide_eq_false (Nat.not_le.mpr c_79)] | rw [c_79] | skip); simp)⟩
          · refine lv_iconst (v := 1) hx hb d_S_makesOne_82 (by decide) ?_
            exact W.zret (v := 1) hx hb hr rfl (fun t ht hW => ⟨1, rfl, by rw [exn_true (j := iv) c_10 (by unfold mc_oneP; (first | rw [decide_eq_true c_10] | rw [decide_eq_false c_10] | rw [decide_eq_false (Nat.not_lt.mpr c_10)] | rw [decide_eq_false (Nat.not_le.mpr c_10)] | rw [c_10] | skip); (first | rw [decide_eq_true b_18] | rw [decide_eq_false b_18] | rw [decide_eq_false (Nat.not_lt.mpr b_18)] | rw [decide_eq_false (Nat.not_le.mpr b_18)] | rw [b_18] | skip); (first | rw [decide_eq_true c_46] | rw [decide_eq_false c_46] | rw [decide_eq_false (Nat.not_lt.mpr c_46)] | rw [decide_eq_false (Nat.not_le.mpr c_46)] | rw [c_46] | skip); (first | rw [decide_eq_true c_79] | rw [decide_eq_false c_79] | rw [decide_eq_false (Nat.not_lt.mpr c_79)] | rw [decide_eq_false (Nat.not_le.mpr c_79)] | rw [c_79] | skip); rfl)]; rfl, ht⟩) (fun q h => by cases h) d_S_makesOne_83
  · have hdone : True := trivial
    have e_1 : nI 0 = 0 := rfl
    exact ⟨by (try rw [e_1]); exact lv_sub hl [1, 2, 3, 0] rfl, lt_0⟩
