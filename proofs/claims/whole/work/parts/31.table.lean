set_option maxHeartbeats 4000000 in
set_option maxRecDepth 100000 in
/-- do some candidates serve all places that are due -/
theorem c_isCover (l : Launch) (dC : Nat → ClassId) (dI : Nat → Nat → Nat) (ad : Nat → Nat) (ca : Nat → ClassId) (cn : Nat) (hc : cn ≤ 63) (due : Int64) (lon : Int64) (pla : Nat → Int64) (sm : Int64) : Met l y_T_isCover w_T_isCover ({ frames := 0, cells := 0, slots := 0, locals := 0 }) (kr_P [.ref (ad 2), .long sm] (dC, dI) vC [(ad 2, eT ad (nI cn) due lon), (ad 13, eL 81 (ca 13) pla)] [(ca 13, .long)]) (vp_Si (fun r => r = if (decide (fo (mc_covf pla sm) cn 0 = due)) = true then 1 else 0)) 0 0 (fun _ => False) := by
  refine Met.ofW (cc := b_T_isCover) (maxL := 6) (ret := (some .boolean)) (by decide) rfl ?_
  intro p e s m args below meth c s₁ B hml hv
  obtain ⟨rfl, hP, hK⟩ := hv
  have hx := B.exec
  have hb := B.bytes
  have hr := B.returns
  have hts := atoms_spec (ws := w_T_isCover) B.pre
  have hlocks := B.notSynchronized
  have hown : s.vm.findClass R_T = some m.cls := findClass_of_methodNamed B.named
  have hl := lv_entry ([.ref (ad 2), .long sm]) (n := 6) (Nat.le_of_ble_eq_true rfl)
  rw [lg_entry_eq]
  generalize (lg_sl ([.ref (ad 2), .long sm]) ++ List.replicate (6 - (lg_sl ([.ref (ad 2), .long sm])).length) Slot.unset).toArray = ls at hl ⊢
  have hl : lv_has ls 6 [(0, .ref (ad 2)), (1, .long sm)] := hl
  refine lv_lconst (v := 0) hx hb d_T_isCover_0 rfl ?_
  refine lv_lstore_n (lv' := [(3, .long 0), (0, .ref (ad 2)), (1, .long sm)]) hx hb d_T_isCover_1 rfl hl (by decide) rfl (fun ls hl => ?_)
  refine lv_iconst (v := 0) hx hb d_T_isCover_2 (by decide) ?_
  refine lv_istore (lv' := [(5, .int 0), (3, .long 0), (0, .ref (ad 2)), (1, .long sm)]) hx hb d_T_isCover_3 hl (by decide) rfl (fun ls hl => ?_)
  refine k_loopR (fun iv ls => lv_has ls 6 [(0, .ref (ad 2)), (1, .long sm), (3, .long (fo (mc_covf pla sm) iv 0)), (5, .int (nI iv))] ∧ True) cn ?_ 0 _ (Nat.zero_le _) ?_
  · intro iv ls hiiv hI ihiv
    obtain ⟨hl, -⟩ := hI
    refine lv_iload hx hb d_T_isCover_5 (lv_at hl 3 rfl) ?_
    refine lv_aload_n hx hb d_T_isCover_7 rfl (lv_at hl 0 rfl) ?_
    refine va_get (D := (dC, dI)) (ci := 0) (v := .int (nI cn)) (C := R_T) (T := F_T) (N := 10) hx hb hts (hin_of in_T) hown hK hP 0 rfl rfl 5 (by decide) (hw_of hts mw_110) (fun _ h9 => h9) rfl d_T_isCover_8 ?_
    refine k_ge (a := iv) (b := cn) (tgt := 41) hx hb rfl rfl (by omega) (by omega) d_T_isCover_11 (by decide) (fun c_11 => ?_) (fun c_11 => ?_)
    · obtain rfl : cn = iv := by omega
      refine lv_lload_n hx hb d_T_isCover_41 rfl (lv_at hl 2 rfl) ?_
      refine lv_aload_n hx hb d_T_isCover_42 rfl (lv_at hl 0 rfl) ?_
      refine va_get (D := (dC, dI)) (ci := 0) (v := .long due) (C := R_T) (T := F_T) (N := 10) hx hb hts (hin_of in_T) hown hK hP 0 rfl rfl 6 (by decide) (hw_of hts mw_112) (fun _ h9 => h9) rfl d_T_isCover_43 ?_
      refine k_lne (tgt := 54) hx hb d_T_isCover_46 d_T_isCover_47 (by decide) (fun c_46 => ?_) (fun c_46 => ?_)
      · refine lv_iconst (v := 0) hx hb d_T_isCover_54 (by decide) ?_
        exact W.zret (v := 0) hx hb hr rfl (fun t ht hW => ⟨0, rfl, by (first | rw [decide_eq_true c_11] | rw [decide_eq_false c_11] | rw [decide_eq_false (Nat.not_lt.mpr c_11)] | rw [decide_eq_false (Nat.not_le.mpr c_11)] | rw [c_11] | skip); (first | rw [decide_eq_true c_46] | rw [decide_eq_false c_46] | rw [decide_eq_false (Nat.not_lt.mpr c_46)] | rw [decide_eq_false (Nat.not_le.mpr c_46)] | rw [c_46] | skip); rfl, ht⟩) (fun q h => by cases h) d_T_isCover_55
      · refine lv_iconst (v := 1) hx hb d_T_isCover_50 (by decide) ?_
        refine lv_goto (tgt := 55) hx hb d_T_isCover_51 (by decide) ?_
        exact W.zret (v := 1) hx hb hr rfl (fun t ht hW => ⟨1, rfl, by (first | rw [decide_eq_true c_11] | rw [decide_eq_false c_11] | rw [decide_eq_false (Nat.not_lt.mpr c_11)] | rw [decide_eq_false (Nat.not_le.mpr c_11)] | rw [c_11] | skip); (first | rw [decide_eq_true c_46] | rw [decide_eq_false c_46] | rw [decide_eq_false (Nat.not_lt.mpr c_46)] | rw [decide_eq_false (Nat.not_le.mpr c_46)] | rw [c_46] | skip); rfl, ht⟩) (fun q h => by cases h) d_T_isCover_55
    · refine lv_lload_n hx hb d_T_isCover_14 rfl (lv_at hl 1 rfl) ?_
      refine lv_iload hx hb d_T_isCover_15 (lv_at hl 3 rfl) ?_
      refine k_bit (i := iv) (tgt := 35) hx hb rfl (by omega) d_T_isCover_17 d_T_isCover_18 d_T_isCover_19 d_T_isCover_20 d_T_isCover_21 d_T_isCover_22 (by decide) (fun b_17 => ?_) (fun b_17 => ?_)
      · refine lv_iinc (v := nI (iv + 1)) (lv' := [(5, .int (nI (iv + 1))), (0, .ref (ad 2)), (1, .long sm), (3, .long (fo (mc_covf pla sm) iv 0))]) hx hb d_T_isCover_35 hl (k := 3) rfl (k_inc _) (by decide) rfl (fun ls hl => ?_)
        refine lv_goto (tgt := 5) hx hb d_T_isCover_38 (by decide) ?_
        refine ihiv _ (by omega) ?_
        have e_1 : fo (mc_covf pla sm) (iv + 1) 0 = fo (mc_covf pla sm) iv 0 := by simp [fo_s, mc_covf, b_17]
        exact ⟨by (try rw [e_1]); exact lv_sub hl [1, 2, 3, 0] rfl, trivial⟩
      · refine lv_lload_n hx hb d_T_isCover_25 rfl (lv_at hl 2 rfl) ?_
        refine lv_aload_n hx hb d_T_isCover_26 rfl (lv_at hl 0 rfl) ?_
        refine va_get (D := (dC, dI)) (ci := 0) (v := .ref (ad 13)) (C := R_T) (T := F_T) (N := 10) hx hb hts (hin_of in_T) hown hK hP 0 rfl rfl 4 (by decide) (hw_of hts mw_107) (fun _ h9 => h9) rfl d_T_isCover_27 ?_
        refine lv_iload hx hb d_T_isCover_30 (lv_at hl 3 rfl) ?_
        refine k_lald (k := iv) hx hb hK hP 1 0 rfl rfl rfl (by omega) (by decide) d_T_isCover_32 ?_
        refine lv_lor hx hb d_T_isCover_33 ?_
        refine lv_lstore_n (lv' := [(3, .long ((fo (mc_covf pla sm) iv 0) ||| (pla iv))), (0, .ref (ad 2)), (1, .long sm), (5, .int (nI iv))]) hx hb d_T_isCover_34 rfl hl (by decide) rfl (fun ls hl => ?_)
        refine lv_iinc (v := nI (iv + 1)) (lv' := [(5, .int (nI (iv + 1))), (3, .long ((fo (mc_covf pla sm) iv 0) ||| (pla iv))), (0, .ref (ad 2)), (1, .long sm)]) hx hb d_T_isCover_35 hl (k := 3) rfl (k_inc _) (by decide) rfl (fun ls hl => ?_)
        refine lv_goto (tgt := 5) hx hb d_T_isCover_38 (by decide) ?_
        refine ihiv _ (by omega) ?_
        have e_2 : fo (mc_covf pla sm) (iv + 1) 0 = (fo (mc_covf pla sm) iv 0) ||| (pla iv) := by simp [fo_s, mc_covf, b_17]
        exact ⟨by (try rw [e_2]); exact lv_sub hl [2, 3, 1, 0] rfl, trivial⟩
  · have hdone : True := trivial
    have e_3 : fo (mc_covf pla sm) 0 0 = 0 := rfl
    have e_4 : nI 0 = 0 := rfl
    exact ⟨by (try rw [e_3]); (try rw [e_4]); exact lv_sub hl [2, 3, 1, 0] rfl, trivial⟩
set_option maxHeartbeats 4000000 in
set_option maxRecDepth 100000 in
/-- is candidate k needed -/
theorem c_isNeeded (l : Launch) (dC : Nat → ClassId) (dI : Nat → Nat → Nat) (ad : Nat → Nat) (ca : Nat → ClassId) (cn : Nat) (hc : cn ≤ 63) (due : Int64) (lon : Int64) (pla : Nat → Int64) (k : Nat) (hk : k < cn) : Met l y_T_isNeeded w_T_isNeeded ({ frames := 0, cells := 0, slots := 0, locals := 0 }) (kr_P [.ref (ad 2), .int (nI k)] (dC, dI) vC [(ad 2, eT ad (nI cn) due lon), (ad 13, eL 81 (ca 13) pla)] [(ca 13, .long)]) (vp_Si (fun r => r = if (!decide (pla k &&& lon = 0)) = true then 1 else 0)) 0 0 (fun _ => False) := by
  refine Met.ofW (cc := b_T_isNeeded) (maxL := 2) (ret := (some .boolean)) (by decide) rfl ?_
  intro p e s m args below meth c s₁ B hml hv
  obtain ⟨rfl, hP, hK⟩ := hv
  have hx := B.exec
  have hb := B.bytes
  have hr := B.returns
  have hts := atoms_spec (ws := w_T_isNeeded) B.pre
  have hlocks := B.notSynchronized
  have hown : s.vm.findClass R_T = some m.cls := findClass_of_methodNamed B.named
  have hl := lv_entry ([.ref (ad 2), .int (nI k)]) (n := 2) (Nat.le_of_ble_eq_true rfl)
  rw [lg_entry_eq]
  generalize (lg_sl ([.ref (ad 2), .int (nI k)]) ++ List.replicate (2 - (lg_sl ([.ref (ad 2), .int (nI k)])).length) Slot.unset).toArray = ls at hl ⊢
  have hl : lv_has ls 2 [(0, .ref (ad 2)), (1, .int (nI k))] := hl
  refine lv_iload_n hx hb d_T_isNeeded_0 rfl (lv_at hl 1 rfl) ?_
  refine lv_if_lt (tgt := 32) hx hb d_T_isNeeded_1 (by decide) (fun h => absurd h (nI_pos (by omega))) (fun _ => ?_)
  refine lv_iload_n hx hb d_T_isNeeded_4 rfl (lv_at hl 1 rfl) ?_
  refine lv_aload_n hx hb d_T_isNeeded_5 rfl (lv_at hl 0 rfl) ?_
  refine va_get (D := (dC, dI)) (ci := 0) (v := .int (nI cn)) (C := R_T) (T := F_T) (N := 10) hx hb hts (hin_of in_T) hown hK hP 0 rfl rfl 5 (by decide) (hw_of hts mw_110) (fun _ h9 => h9) rfl d_T_isNeeded_6 ?_
  refine k_ge (a := k) (b := cn) (tgt := 32) hx hb rfl rfl (by omega) (by omega) d_T_isNeeded_9 (by decide) (fun c_9 => ?_) (fun c_9 => ?_)
  · exfalso; omega
  · refine lv_aload_n hx hb d_T_isNeeded_12 rfl (lv_at hl 0 rfl) ?_
    refine va_get (D := (dC, dI)) (ci := 0) (v := .ref (ad 13)) (C := R_T) (T := F_T) (N := 10) hx hb hts (hin_of in_T) hown hK hP 0 rfl rfl 4 (by decide) (hw_of hts mw_107) (fun _ h9 => h9) rfl d_T_isNeeded_13 ?_
    refine lv_iload_n hx hb d_T_isNeeded_16 rfl (lv_at hl 1 rfl) ?_
    refine k_lald (k := k) hx hb hK hP 1 0 rfl rfl rfl (by omega) (by decide) d_T_isNeeded_17 ?_
    refine lv_aload_n hx hb d_T_isNeeded_18 rfl (lv_at hl 0 rfl) ?_
    refine va_get (D := (dC, dI)) (ci := 0) (v := .long lon) (C := R_T) (T := F_T) (N := 10) hx hb hts (hin_of in_T) hown hK hP 0 rfl rfl 7 (by decide) (hw_of hts mw_114) (fun _ h9 => h9) rfl d_T_isNeeded_19 ?_
    refine lv_land hx hb d_T_isNeeded_22 ?_
    refine lv_lconst (v := 0) hx hb d_T_isNeeded_23 rfl ?_
    refine k_leq (tgt := 32) hx hb d_T_isNeeded_24 d_T_isNeeded_25 (by decide) (fun c_24 => ?_) (fun c_24 => ?_)
    · refine lv_iconst (v := 0) hx hb d_T_isNeeded_32 (by decide) ?_
      exact W.zret (v := 0) hx hb hr rfl (fun t ht hW => ⟨0, rfl, by (first | rw [decide_eq_true c_9] | rw [decide_eq_false c_9] | rw [decide_eq_false (Nat.not_lt.mpr c_9)] | rw [decide_eq_false (Nat.not_le.mpr c_9)] | rw [c_9] | skip); (first | rw [decide_eq_true c_24] | rw [decide_eq_false c_24] | rw [decide_eq_false (Nat.not_lt.mpr c_24)] | rw [decide_eq_false (Nat.not_le.mpr c_24)] | rw [c_24] | skip); rfl, ht⟩) (fun q h => by cases h) d_T_isNeeded_33
    · refine lv_iconst (v := 1) hx hb d_T_isNeeded_28 (by decide) ?_
      refine lv_goto (tgt := 33) hx hb d_T_isNeeded_29 (by decide) ?_
      exact W.zret (v := 1) hx hb hr rfl (fun t ht hW => ⟨1, rfl, by (first | rw [decide_eq_true c_9] | rw [decide_eq_false c_9] | rw [decide_eq_false (Nat.not_lt.mpr c_9)] | rw [decide_eq_false (Nat.not_le.mpr c_9)] | rw [c_9] | skip); (first | rw [decide_eq_true c_24] | rw [decide_eq_false c_24] | rw [decide_eq_false (Nat.not_lt.mpr c_24)] | rw [decide_eq_false (Nat.not_le.mpr c_24)] | rw [c_24] | skip); rfl, ht⟩) (fun q h => by cases h) d_T_isNeeded_33
set_option maxHeartbeats 4000000 in
set_option maxRecDepth 100000 in
theorem c_outputsOf (l : Launch) (dC : Nat → ClassId) (dI : Nat → Nat → Nat) (ad : Nat → Nat) (ca : Nat → ClassId) (zer : Nat → Int32) (w : Int32) (mo : Nat) (hmo : mo ≤ 2) : Met l y_T_outputsOf w_T_outputsOf ({ frames := 0, cells := 0, slots := 0, locals := 0 }) (kr_P [.int w, .int (nI mo), .ref (ad 5)] (dC, dI) vC [(ad 5, eI 2 (ca 5) zer)] [(ca 5, .int)]) (vp_Si (fun r => r = fo (mc_outf w zer) mo 0)) 0 0 (fun _ => False) := by
  refine Met.ofW (cc := b_T_outputsOf) (maxL := 5) (ret := (some .int)) (by decide) rfl ?_
  intro p e s m args below meth c s₁ B hml hv
  obtain ⟨rfl, hP, hK⟩ := hv
  have hx := B.exec
  have hb := B.bytes
  have hr := B.returns
  have hts := atoms_spec (ws := w_T_outputsOf) B.pre
  have hlocks := B.notSynchronized
  have hown : s.vm.findClass R_T = some m.cls := findClass_of_methodNamed B.named
  have hl := lv_entry ([.int w, .int (nI mo), .ref (ad 5)]) (n := 5) (Nat.le_of_ble_eq_true rfl)
  rw [lg_entry_eq]
  generalize (lg_sl ([.int w, .int (nI mo), .ref (ad 5)]) ++ List.replicate (5 - (lg_sl ([.int w, .int (nI mo), .ref (ad 5)])).length) Slot.unset).toArray = ls at hl ⊢
  have hl : lv_has ls 5 [(0, .int w), (1, .int (nI mo)), (2, .ref (ad 5))] := hl
  refine lv_iconst (v := 0) hx hb d_T_outputsOf_0 (by decide) ?_
  refine lv_istore_n (lv' := [(3, .int 0), (0, .int w), (1, .int (nI mo)), (2, .ref (ad 5))]) hx hb d_T_outputsOf_1 rfl hl (by decide) rfl (fun ls hl => ?_)
  refine lv_iconst (v := 0) hx hb d_T_outputsOf_2 (by decide) ?_
  refine lv_istore (lv' := [(4, .int 0), (3, .int 0), (0, .int w), (1, .int (nI mo)), (2, .ref (ad 5))]) hx hb d_T_outputsOf_3 hl (by decide) rfl (fun ls hl => ?_)
  refine k_loopR (fun iv ls => lv_has ls 5 [(0, .int w), (1, .int (nI mo)), (2, .ref (ad 5)), (3, .int (fo (mc_outf w zer) iv 0)), (4, .int (nI iv))] ∧ True) mo ?_ 0 _ (Nat.zero_le _) ?_
  · intro iv ls hiiv hI ihiv
    obtain ⟨hl, -⟩ := hI
    refine lv_iload hx hb d_T_outputsOf_5 (lv_at hl 4 rfl) ?_
    refine lv_iload_n hx hb d_T_outputsOf_7 rfl (lv_at hl 1 rfl) ?_
    refine k_ge (a := iv) (b := mo) (tgt := 40) hx hb rfl rfl (by omega) (by omega) d_T_outputsOf_8 (by decide) (fun c_8 => ?_) (fun c_8 => ?_)
    · obtain rfl : mo = iv := by omega
      refine lv_iload_n hx hb d_T_outputsOf_40 rfl (lv_at hl 3 rfl) ?_
      exact W.iret (v := fo (mc_outf w zer) mo 0) hx hb hr (fun t ht hW => ⟨fo (mc_outf w zer) mo 0, rfl, rfl, ht⟩) (fun q h => by cases h) d_T_outputsOf_41
    · refine lv_iload hx hb d_T_outputsOf_11 (lv_at hl 4 rfl) ?_
      refine lv_aload_n hx hb d_T_outputsOf_13 rfl (lv_at hl 2 rfl) ?_
      refine va_alen (v := 2) hx hb hK hP 0 0 rfl rfl rfl d_T_outputsOf_14 ?_
      refine k_ge (a := iv) (b := 2) (tgt := 40) hx hb rfl rfl (by omega) (by omega) d_T_outputsOf_15 (by decide) (fun c_15 => ?_) (fun c_15 => ?_)
      · exfalso; omega
      · refine lv_iload_n hx hb d_T_outputsOf_18 rfl (lv_at hl 0 rfl) ?_
        refine lv_aload_n hx hb d_T_outputsOf_19 rfl (lv_at hl 2 rfl) ?_
        refine lv_iload hx hb d_T_outputsOf_20 (lv_at hl 4 rfl) ?_
        refine k_iald (k := iv) hx hb hK hP 0 0 rfl rfl rfl (by omega) (by decide) d_T_outputsOf_22 ?_
        refine lv_iand hx hb d_T_outputsOf_23 ?_
        refine lv_if_ne (tgt := 34) hx hb d_T_outputsOf_24 (by decide) (fun c_24 => ?_) (fun c_24 => ?_)
        · refine lv_iinc (v := nI (iv + 1)) (lv' := [(4, .int (nI (iv + 1))), (0, .int w), (1, .int (nI mo)), (2, .ref (ad 5)), (3, .int (fo (mc_outf w zer) iv 0))]) hx hb d_T_outputsOf_34 hl (k := 4) rfl (k_inc _) (by decide) rfl (fun ls hl => ?_)
          refine lv_goto (tgt := 5) hx hb d_T_outputsOf_37 (by decide) ?_
          refine ihiv _ (by omega) ?_
          have e_1 : fo (mc_outf w zer) (iv + 1) 0 = fo (mc_outf w zer) iv 0 := by simp [fo_s, mc_outf, c_8, c_15, c_24]
          exact ⟨by (try rw [e_1]); exact lv_sub hl [1, 2, 3, 4, 0] rfl, trivial⟩
        · refine lv_iload_n hx hb d_T_outputsOf_27 rfl (lv_at hl 3 rfl) ?_
          refine lv_iconst (v := 1) hx hb d_T_outputsOf_28 (by decide) ?_
          refine lv_iload hx hb d_T_outputsOf_29 (lv_at hl 4 rfl) ?_
          refine lv_ishl hx hb d_T_outputsOf_31 ?_
          refine lv_ior hx hb d_T_outputsOf_32 ?_
          refine lv_istore_n (lv' := [(3, .int ((fo (mc_outf w zer) iv 0) ||| ((1 : Int32) <<< ((nI iv) &&& 31)))), (0, .int w), (1, .int (nI mo)), (2, .ref (ad 5)), (4, .int (nI iv))]) hx hb d_T_outputsOf_33 rfl hl (by decide) rfl (fun ls hl => ?_)
          refine lv_iinc (v := nI (iv + 1)) (lv' := [(4, .int (nI (iv + 1))), (3, .int ((fo (mc_outf w zer) iv 0) ||| ((1 : Int32) <<< ((nI iv) &&& 31)))), (0, .int w), (1, .int (nI mo)), (2, .ref (ad 5))]) hx hb d_T_outputsOf_34 hl (k := 4) rfl (k_inc _) (by decide) rfl (fun ls hl => ?_)
          refine lv_goto (tgt := 5) hx hb d_T_outputsOf_37 (by decide) ?_
          refine ihiv _ (by omega) ?_
          have e_2 : fo (mc_outf w zer) (iv + 1) 0 = (fo (mc_outf w zer) iv 0) ||| ((1 : Int32) <<< ((nI iv) &&& 31)) := by simp [fo_s, mc_outf, c_8, c_15, c_24]
          exact ⟨by (try rw [e_2]); exact lv_sub hl [2, 3, 4, 1, 0] rfl, trivial⟩
  · have hdone : True := trivial
    have e_3 : fo (mc_outf w zer) 0 0 = 0 := rfl
    have e_4 : nI 0 = 0 := rfl
    exact ⟨by (try rw [e_3]); (try rw [e_4]); exact lv_sub hl [2, 3, 4, 1, 0] rfl, trivial⟩
set_option maxHeartbeats 4000000 in
set_option maxRecDepth 100000 in
theorem c_placesOf (l : Launch) (dC : Nat → ClassId) (dI : Nat → Nat → Nat) (ad : Nat → Nat) (ca : Nat → ClassId) (one : Nat → Int32) (wh : Int32) : Met l y_T_placesOf w_T_placesOf ({ frames := 0, cells := 0, slots := 0, locals := 0 }) (kr_P [.ref (ad 4), .int wh] (dC, dI) vC [(ad 4, eI 2 (ca 4) one)] [(ca 4, .int)]) (vp_Sl (fun r => r = fo (mc_plf one wh) 2 0)) 0 0 (fun _ => False) := by
  refine Met.ofW (cc := b_T_placesOf) (maxL := 5) (ret := (some .long)) (by decide) rfl ?_
  intro p e s m args below meth c s₁ B hml hv
  obtain ⟨rfl, hP, hK⟩ := hv
  have hx := B.exec
  have hb := B.bytes
  have hr := B.returns
  have hts := atoms_spec (ws := w_T_placesOf) B.pre
  have hlocks := B.notSynchronized
  have hown : s.vm.findClass R_T = some m.cls := findClass_of_methodNamed B.named
  have hl := lv_entry ([.ref (ad 4), .int wh]) (n := 5) (Nat.le_of_ble_eq_true rfl)
  rw [lg_entry_eq]
  generalize (lg_sl ([.ref (ad 4), .int wh]) ++ List.replicate (5 - (lg_sl ([.ref (ad 4), .int wh])).length) Slot.unset).toArray = ls at hl ⊢
  have hl : lv_has ls 5 [(0, .ref (ad 4)), (1, .int wh)] := hl
  refine lv_lconst (v := 0) hx hb d_T_placesOf_0 rfl ?_
  refine lv_lstore_n (lv' := [(2, .long 0), (0, .ref (ad 4)), (1, .int wh)]) hx hb d_T_placesOf_1 rfl hl (by decide) rfl (fun ls hl => ?_)
  refine lv_iconst (v := 0) hx hb d_T_placesOf_2 (by decide) ?_
  refine lv_istore (lv' := [(4, .int 0), (2, .long 0), (0, .ref (ad 4)), (1, .int wh)]) hx hb d_T_placesOf_3 hl (by decide) rfl (fun ls hl => ?_)
  refine k_loopR (fun iv ls => lv_has ls 5 [(0, .ref (ad 4)), (1, .int wh), (2, .long (fo (mc_plf one wh) iv 0)), (4, .int (nI iv))] ∧ True) 2 ?_ 0 _ (Nat.zero_le _) ?_
  · intro iv ls hiiv hI ihiv
    obtain ⟨hl, -⟩ := hI
    refine lv_iload hx hb d_T_placesOf_5 (lv_at hl 3 rfl) ?_
    refine lv_aload_n hx hb d_T_placesOf_7 rfl (lv_at hl 0 rfl) ?_
    refine va_alen (v := 2) hx hb hK hP 0 0 rfl rfl rfl d_T_placesOf_8 ?_
    refine k_ge (a := iv) (b := 2) (tgt := 41) hx hb rfl rfl (by omega) (by omega) d_T_placesOf_9 (by decide) (fun c_9 => ?_) (fun c_9 => ?_)
    · obtain rfl : 2 = iv := by omega
      refine lv_lload_n hx hb d_T_placesOf_41 rfl (lv_at hl 2 rfl) ?_
      exact W.lret (v := fo (mc_plf one wh) 2 0) hx hb hr (fun t ht hW => ⟨fo (mc_plf one wh) 2 0, rfl, rfl, ht⟩) (fun q h => by cases h) d_T_placesOf_42
    · refine lv_iload_n hx hb d_T_placesOf_12 rfl (lv_at hl 1 rfl) ?_
      refine lv_iload hx hb d_T_placesOf_13 (lv_at hl 3 rfl) ?_
      refine lv_ishr hx hb d_T_placesOf_15 ?_
      refine lv_iconst (v := 1) hx hb d_T_placesOf_16 (by decide) ?_
      refine lv_iand hx hb d_T_placesOf_17 ?_
      refine lv_if_eq (tgt := 35) hx hb d_T_placesOf_18 (by decide) (fun c_18 => ?_) (fun c_18 => ?_)
      · refine lv_iinc (v := nI (iv + 1)) (lv' := [(4, .int (nI (iv + 1))), (0, .ref (ad 4)), (1, .int wh), (2, .long (fo (mc_plf one wh) iv 0))]) hx hb d_T_placesOf_35 hl (k := 3) rfl (k_inc _) (by decide) rfl (fun ls hl => ?_)
        refine lv_goto (tgt := 5) hx hb d_T_placesOf_38 (by decide) ?_
        refine ihiv _ (by omega) ?_
        have e_1 : fo (mc_plf one wh) (iv + 1) 0 = fo (mc_plf one wh) iv 0 := by simp [fo_s, mc_plf, c_9, c_18]
        exact ⟨by (try rw [e_1]); exact lv_sub hl [1, 2, 3, 0] rfl, trivial⟩
      · refine lv_lload_n hx hb d_T_placesOf_21 rfl (lv_at hl 2 rfl) ?_
        refine lv_aload_n hx hb d_T_placesOf_22 rfl (lv_at hl 0 rfl) ?_
        refine lv_iload hx hb d_T_placesOf_23 (lv_at hl 3 rfl) ?_
        refine k_iald (k := iv) hx hb hK hP 0 0 rfl rfl rfl (by omega) (by decide) d_T_placesOf_25 ?_
        refine lv_i2l hx hb d_T_placesOf_26 rfl ?_
        refine lv_bipush (v := 16) hx hb d_T_placesOf_27 (by decide) ?_
        refine lv_iload hx hb d_T_placesOf_29 (lv_at hl 3 rfl) ?_
        refine k_imul (a := 16) (b := iv) hx hb rfl rfl d_T_placesOf_31 ?_
        refine lv_lshl (v := ((one iv).toInt64) <<< ((nI (16 * iv)).toInt64 &&& 63)) hx hb d_T_placesOf_32 rfl ?_
        refine lv_lor hx hb d_T_placesOf_33 ?_
        refine lv_lstore_n (lv' := [(2, .long ((fo (mc_plf one wh) iv 0) ||| (((one iv).toInt64) <<< ((nI (16 * iv)).toInt64 &&& 63)))), (0, .ref (ad 4)), (1, .int wh), (4, .int (nI iv))]) hx hb d_T_placesOf_34 rfl hl (by decide) rfl (fun ls hl => ?_)
        refine lv_iinc (v := nI (iv + 1)) (lv' := [(4, .int (nI (iv + 1))), (2, .long ((fo (mc_plf one wh) iv 0) ||| (((one iv).toInt64) <<< ((nI (16 * iv)).toInt64 &&& 63)))), (0, .ref (ad 4)), (1, .int wh)]) hx hb d_T_placesOf_35 hl (k := 3) rfl (k_inc _) (by decide) rfl (fun ls hl => ?_)
        refine lv_goto (tgt := 5) hx hb d_T_placesOf_38 (by decide) ?_
        refine ihiv _ (by omega) ?_
        have e_2 : fo (mc_plf one wh) (iv + 1) 0 = (fo (mc_plf one wh) iv 0) ||| (((one iv).toInt64) <<< ((nI (16 * iv)).toInt64 &&& 63)) := by simp [fo_s, mc_plf, c_9, c_18]
        exact ⟨by (try rw [e_2]); exact lv_sub hl [2, 3, 1, 0] rfl, trivial⟩
  · have hdone : True := trivial
    have e_3 : fo (mc_plf one wh) 0 0 = 0 := rfl
    have e_4 : nI 0 = 0 := rfl
    exact ⟨by (try rw [e_3]); (try rw [e_4]); exact lv_sub hl [2, 3, 1, 0] rfl, trivial⟩
set_option maxHeartbeats 4000000 in
set_option maxRecDepth 100000 in
theorem c_countThinned (l : Launch) (dC : Nat → ClassId) (dI : Nat → Nat → Nat) (ad : Nat → Nat) (ca : Nat → ClassId) (cn : Nat) (hc : cn ≤ 63) (due : Int64) (lon : Int64) (num : Nat → Int32) (pla : Nat → Int64) (fm : Int32) : Met l y_T_countThinned w_T_countThinned ({ frames := 1, cells := 0, slots := 0, locals := 40 }) (kr_P [.ref (ad 2), .int fm] (dC, dI) vC [(ad 2, eT ad (nI cn) due lon), (ad 9, eI 81 (ca 9) num), (ad 13, eL 81 (ca 13) pla)] [(ca 9, .int), (ca 13, .long)]) (vp_Si (fun r => r = mc_thin num pla due cn fm)) 0 0 (fun _ => False) := by
  refine Met.ofW (cc := b_T_countThinned) (maxL := 7) (ret := (some .int)) (by decide) rfl ?_
  intro p e s m args below meth c s₁ B hml hv
  obtain ⟨rfl, hP, hK⟩ := hv
  have hx := B.exec
  have hb := B.bytes
  have hr := B.returns
  have hts := atoms_spec (ws := w_T_countThinned) B.pre
  have hlocks := B.notSynchronized
  have hown : s.vm.findClass R_T = some m.cls := findClass_of_methodNamed B.named
  have hl := lv_entry ([.ref (ad 2), .int fm]) (n := 7) (Nat.le_of_ble_eq_true rfl)
  rw [lg_entry_eq]
  generalize (lg_sl ([.ref (ad 2), .int fm]) ++ List.replicate (7 - (lg_sl ([.ref (ad 2), .int fm])).length) Slot.unset).toArray = ls at hl ⊢
  have hl : lv_has ls 7 [(0, .ref (ad 2)), (1, .int fm)] := hl
  refine lv_lconst (v := 0) hx hb d_T_countThinned_0 rfl ?_
  refine lv_lstore_n (lv' := [(2, .long 0), (0, .ref (ad 2)), (1, .int fm)]) hx hb d_T_countThinned_1 rfl hl (by decide) rfl (fun ls hl => ?_)
  refine lv_iconst (v := 0) hx hb d_T_countThinned_2 (by decide) ?_
  refine lv_istore (lv' := [(4, .int 0), (2, .long 0), (0, .ref (ad 2)), (1, .int fm)]) hx hb d_T_countThinned_3 hl (by decide) rfl (fun ls hl => ?_)
  refine k_loopR (fun iv ls => lv_has ls 7 [(0, .ref (ad 2)), (1, .int fm), (2, .long (fo (mc_thf num fm) iv 0)), (4, .int (nI iv))] ∧ True) cn ?_ 0 _ (Nat.zero_le _) ?_
  · intro iv ls hiiv hI ihiv
    obtain ⟨hl, -⟩ := hI
    refine lv_iload hx hb d_T_countThinned_5 (lv_at hl 3 rfl) ?_
    refine lv_aload_n hx hb d_T_countThinned_7 rfl (lv_at hl 0 rfl) ?_
    refine va_get (D := (dC, dI)) (ci := 0) (v := .int (nI cn)) (C := R_T) (T := F_T) (N := 10) hx hb hts (hin_of in_T) hown hK hP 0 rfl rfl 5 (by decide) (hw_of hts mw_110) (fun _ h9 => h9) rfl d_T_countThinned_8 ?_
    refine k_ge (a := iv) (b := cn) (tgt := 38) hx hb rfl rfl (by omega) (by omega) d_T_countThinned_11 (by decide) (fun c_11 => ?_) (fun c_11 => ?_)
    · obtain rfl : cn = iv := by omega
      refine lv_aload_n hx hb d_T_countThinned_38 rfl (lv_at hl 0 rfl) ?_
      refine lv_lload_n hx hb d_T_countThinned_39 rfl (lv_at hl 2 rfl) ?_
      have hPc := hP.sub (ws' := [(ad 2, eT ad (nI cn) due lon), (ad 13, eL 81 (ca 13) pla)]) [0, 2] rfl
      have hKc := hK.sub (tys' := [(ca 13, .long)]) [1] rfl
      refine vp_callSi (W.runV (As := [.long (fo (mc_thf num fm) cn 0)]) (rest := []) ⟨hx, hb, hml, hown, hts⟩ (c_isCover l dC dI ad ca cn hc due lon pla (fo (mc_thf num fm) cn 0)) (cwV 1 hts (gd_V mw_318 mw_319 mw_320 mw_42 mw_321) rfl rfl rfl (by decide +kernel) ⟨Nat.le_of_ble_eq_true rfl, Nat.le_of_ble_eq_true rfl⟩) (kr_V (q0 := 0) (ci := 0) hKc hPc rfl rfl) rfl rfl hl.1 rfl (lv_room (Nat.le_of_ble_eq_true rfl)) d_T_countThinned_40 ⟨Nat.zero_le _, Nat.zero_le _⟩) (fun r hq => ?_)
      subst hq
      refine k_bne (b := (decide (fo (mc_covf pla (fo (mc_thf num fm) cn 0)) cn 0 = due))) (tgt := 48) hx hb d_T_countThinned_43 (by decide) (fun c_43 => ?_) (fun c_43 => ?_)
      · refine lv_aload_n hx hb d_T_countThinned_48 rfl (lv_at hl 0 rfl) ?_
        refine va_get (D := (dC, dI)) (ci := 0) (v := .int (nI cn)) (C := R_T) (T := F_T) (N := 10) hx hb hts (hin_of in_T) hown hK hP 0 rfl rfl 5 (by decide) (hw_of hts mw_110) (fun _ h9 => h9) rfl d_T_countThinned_49 ?_
        refine lv_iconst (v := 1) hx hb d_T_countThinned_52 (by decide) ?_
        refine lv_isub hx hb d_T_countThinned_53 ?_
        refine lv_istore (lv' := [(4, .int ((nI cn) - 1)), (0, .ref (ad 2)), (1, .int fm), (2, .long (fo (mc_thf num fm) cn 0))]) hx hb d_T_countThinned_54 hl (by decide) rfl (fun ls hl => ?_)
        refine k_loopR (fun kv ls => lv_has ls 7 [(0, .ref (ad 2)), (1, .int fm), (2, .long (fo (mc_th2f pla due cn) kv (fo (mc_thf num fm) cn 0))), (4, .int (nI (cn - kv) - 1))] ∧ True) cn ?_ 0 _ (Nat.zero_le _) ?_
        · intro kv ls hikv hI ihkv
          obtain ⟨hl, -⟩ := hI
          refine lv_iload hx hb d_T_countThinned_56 (lv_at hl 3 rfl) ?_
          refine lv_if_lt (tgt := 98) hx hb d_T_countThinned_58 (by decide) (fun c_58 => ?_) (fun c_58 => ?_)
          · obtain rfl : cn = kv := (th_neg hc hikv).mp c_58
            refine lv_lload_n hx hb d_T_countThinned_98 rfl (lv_at hl 2 rfl) ?_
            have hPc := hP.sub (ws' := []) [] rfl
            have hKc := hK.sub (tys' := []) [] rfl
            refine vp_callSi (W.runS (As := [.long (fo (mc_th2f pla due cn) cn (fo (mc_thf num fm) cn 0))]) (rest := []) ⟨hx, hb, hml, hown, hts⟩ (c_bitCount l dC dI ad ca (fo (mc_th2f pla due cn) cn (fo (mc_thf num fm) cn 0))) (va_cwS 1 hts (gd_S mw_322 mw_297 mw_51 mw_298) rfl rfl rfl (by decide +kernel) ⟨Nat.le_of_ble_eq_true rfl, Nat.le_of_ble_eq_true rfl⟩) (kr_S hKc hPc) rfl rfl hl.1 rfl (lv_room (Nat.le_of_ble_eq_true rfl)) d_T_countThinned_99 ⟨Nat.zero_le _, Nat.zero_le _⟩) (fun r hq => ?_)
            subst hq
            exact W.iret (v := m_pop (fo (mc_th2f pla due cn) cn (fo (mc_thf num fm) cn 0))) hx hb hr (fun t ht hW => ⟨m_pop (fo (mc_th2f pla due cn) cn (fo (mc_thf num fm) cn 0)), rfl, by unfold mc_thin; rw [if_pos c_43], ht⟩) (fun q h => by cases h) d_T_countThinned_102
          · have hkv : kv < cn := Nat.lt_of_le_of_ne hikv (fun h => c_58 ((th_neg hc hikv).mpr h.symm))
            rw [th_idx hkv] at hl
            refine lv_lload_n hx hb d_T_countThinned_61 rfl (lv_at hl 2 rfl) ?_
            refine lv_lconst (v := 1) hx hb d_T_countThinned_62 rfl ?_
            refine lv_iload hx hb d_T_countThinned_63 (lv_at hl 3 rfl) ?_
            refine lv_lshl (v := zo (cn - 1 - kv)) hx hb d_T_countThinned_65 rfl ?_
            refine lv_ldc2 hx hb hown (hw_of hts mw_242) d_T_countThinned_66 ?_
            refine lv_lxor hx hb d_T_countThinned_69 ?_
            refine lv_land hx hb d_T_countThinned_70 ?_
            refine lv_lstore (lv' := [(5, .long ((fo (mc_th2f pla due cn) kv (fo (mc_thf num fm) cn 0)) &&& ((zo (cn - 1 - kv)) ^^^ (-1)))), (0, .ref (ad 2)), (1, .int fm), (2, .long (fo (mc_th2f pla due cn) kv (fo (mc_thf num fm) cn 0))), (4, .int (nI (cn - 1 - kv)))]) hx hb d_T_countThinned_71 hl (by decide) rfl (fun ls hl => ?_)
            refine lv_lload hx hb d_T_countThinned_73 (lv_at hl 0 rfl) ?_
            refine lv_lload_n hx hb d_T_countThinned_75 rfl (lv_at hl 3 rfl) ?_
            refine k_leq (tgt := 92) hx hb d_T_countThinned_76 d_T_countThinned_77 (by decide) (fun c_76 => ?_) (fun c_76 => ?_)
            · refine lv_iinc (v := (nI (cn - 1 - kv)) + (-1)) (lv' := [(4, .int ((nI (cn - 1 - kv)) + (-1))), (5, .long ((fo (mc_th2f pla due cn) kv (fo (mc_thf num fm) cn 0)) &&& ((zo (cn - 1 - kv)) ^^^ (-1)))), (0, .ref (ad 2)), (1, .int fm), (2, .long (fo (mc_th2f pla due cn) kv (fo (mc_thf num fm) cn 0)))]) hx hb d_T_countThinned_92 hl (k := 4) rfl rfl (by decide) rfl (fun ls hl => ?_)
              refine lv_goto (tgt := 56) hx hb d_T_countThinned_95 (by decide) ?_
              refine ihkv _ (by omega) ?_
              have e_1 : fo (mc_th2f pla due cn) (kv + 1) (fo (mc_thf num fm) cn 0) = fo (mc_th2f pla due cn) kv (fo (mc_thf num fm) cn 0) := by rw [fo_s]; (first | rfl | exact if_pos c_11 | exact if_neg c_11 | exact if_neg (by rw [c_11]; decide) | exact if_pos c_43 | exact if_neg c_43 | exact if_neg (by rw [c_43]; decide) | exact if_pos c_58 | exact if_neg c_58 | exact if_neg (by rw [c_58]; decide) | exact if_pos hkv | exact if_neg hkv | exact if_neg (by rw [hkv]; decide) | exact if_pos c_76 | exact if_neg c_76 | exact if_neg (by rw [c_76]; decide) | exact (if_neg c_11).trans (if_pos c_43) | exact (if_neg c_11).trans (if_neg c_43) | exact (if_neg c_11).trans (if_neg (by rw [c_43]; decide)) | exact (if_neg (by rw [c_11]; decide)).trans (if_pos c_43) | exact (if_neg (by rw [c_11]; decide)).trans (if_neg c_43) | exact (if_neg (by rw [c_11]; decide)).trans (if_neg (by rw [c_43]; decide)) | exact (if_neg c_11).trans (if_pos c_58) | exact (if_neg c_11).trans (if_neg c_58) | exact (if_neg c_11).trans (if_neg (by rw [c_58]; decide)) | exact (if_neg (by rw [c_11]; decide)).trans (if_pos c_58) | exact (if_neg (by rw [c_11]; decide)).trans (if_neg c_58) | exact (if_neg (by rw [c_11]; decide)).trans (if_neg (by rw [c_58]; decide)) | exact (if_neg c_11).trans (if_pos hkv) | exact (if_neg c_11).trans (if_neg hkv) | exact (if_neg c_11).trans (if_neg (by rw [hkv]; decide)) | exact (if_neg (by rw [c_11]; decide)).trans (if_pos hkv) | exact (if_neg (by rw [c_11]; decide)).trans (if_neg hkv) | exact (if_neg (by rw [c_11]; decide)).trans (if_neg (by rw [hkv]; decide)) | exact (if_neg c_11).trans (if_pos c_76) | exact (if_neg c_11).trans (if_neg c_76) | exact (if_neg c_11).trans (if_neg (by rw [c_76]; decide)) | exact (if_neg (by rw [c_11]; decide)).trans (if_pos c_76) | exact (if_neg (by rw [c_11]; decide)).trans (if_neg c_76) | exact (if_neg (by rw [c_11]; decide)).trans (if_neg (by rw [c_76]; decide)) | exact (if_neg c_43).trans (if_pos c_11) | exact (if_neg c_43).trans (if_neg c_11) | exact (if_neg c_43).trans (if_neg (by rw [c_11]; decide)) | exact (if_neg (by rw [c_43]; decide)).trans (if_pos c_11) | exact (if_neg (by rw [c_43]; decide)).trans (if_neg c_11) | exact (if_neg (by rw [c_43]; decide)).trans (if_neg (by rw [c_11]; decide)) | exact (if_neg c_43).trans (if_pos c_58) | exact (if_neg c_43).trans (if_neg c_58) | exact (if_neg c_43).trans (if_neg (by rw [c_58]; decide)) | exact (if_neg (by rw [c_43]; decide)).trans (if_pos c_58) | exact (if_neg (by rw [c_43]; decide)).trans (if_neg c_58) | exact (if_neg (by rw [c_43]; decide)).trans (if_neg (by rw [c_58]; decide)) | exact (if_neg c_43).trans (if_pos hkv) | exact (if_neg c_43).trans (if_neg hkv) | exact (if_neg c_43).trans (if_neg (by rw [hkv]; decide)) | exact (if_neg (by rw [c_43]; decide)).trans (if_pos hkv) | exact (if_neg (by rw [c_43]; decide)).trans (if_neg hkv) | exact (if_neg (by rw [c_43]; decide)).trans (if_neg (by rw [hkv]; decide)) | exact (if_neg c_43).trans (if_pos c_76) | exact (if_neg c_43).trans (if_neg c_76) | exact (if_neg c_43).trans (if_neg (by rw [c_76]; decide)) | exact (if_neg (by rw [c_43]; decide)).trans (if_pos c_76) | exact (if_neg (by rw [c_43]; decide)).trans (if_neg c_76) | exact (if_neg (by rw [c_43]; decide)).trans (if_neg (by rw [c_76]; decide)) | exact (if_neg c_58).trans (if_pos c_11) | exact (if_neg c_58).trans (if_neg c_11) | exact (if_neg c_58).trans (if_neg (by rw [c_11]; decide)) | exact (if_neg (by rw [c_58]; decide)).trans (if_pos c_11) | exact (if_neg (by rw [c_58]; decide)).trans (if_neg c_11) | exact (if_neg (by rw [c_58]; decide)).trans (if_neg (by rw [c_11]; decide)) | exact (if_neg c_58).trans (if_pos c_43) | exact (if_neg c_58).trans (if_neg c_43) | exact (if_neg c_58).trans (if_neg (by rw [c_43]; decide)) | exact (if_neg (by rw [c_58]; decide)).trans (if_pos c_43) | exact (if_neg (by rw [c_58]; decide)).trans (if_neg c_43) | exact (if_neg (by rw [c_58]; decide)).trans (if_neg (by rw [c_43]; decide)) | exact (if_neg c_58).trans (if_pos hkv) | exact (if_neg c_58).trans (if_neg hkv) | exact (if_neg c_58).trans (if_neg (by rw [hkv]; decide)) | exact (if_neg (by rw [c_58]; decide)).trans (if_pos hkv) | exact (if_neg (by rw [c_58]; decide)).trans (if_neg hkv) | exact (if_neg (by rw [c_58]; decide)).trans (if_neg (by rw [hkv]; decide)) | exact (if_neg c_58).trans (if_pos c_76) | exact (if_neg c_58).trans (if_neg c_76) | exact (if_neg c_58).trans (if_neg (by rw [c_76]; decide)) | exact (if_neg (by rw [c_58]; decide)).trans (if_pos c_76) | exact (if_neg (by rw [c_58]; decide)).trans (if_neg c_76) | exact (if_neg (by rw [c_58]; decide)).trans (if_neg (by rw [c_76]; decide)) | exact (if_neg hkv).trans (if_pos c_11) | exact (if_neg hkv).trans (if_neg c_11) | exact (if_neg hkv).trans (if_neg (by rw [c_11]; decide)) | exact (if_neg (by rw [hkv]; decide)).trans (if_pos c_11) | exact (if_neg (by rw [hkv]; decide)).trans (if_neg c_11) | exact (if_neg (by rw [hkv]; decide)).trans (if_neg (by rw [c_11]; decide)) | exact (if_neg hkv).trans (if_pos c_43) | exact (if_neg hkv).trans (if_neg c_43) | exact (if_neg hkv).trans (if_neg (by rw [c_43]; decide)) | exact (if_neg (by rw [hkv]; decide)).trans (if_pos c_43) | exact (if_neg (by rw [hkv]; decide)).trans (if_neg c_43) | exact (if_neg (by rw [hkv]; decide)).trans (if_neg (by rw [c_43]; decide)) | exact (if_neg hkv).trans (if_pos c_58) | exact (if_neg hkv).trans (if_neg c_58) | exact (if_neg hkv).trans (if_neg (by rw [c_58]; decide)) | exact (if_neg (by rw [hkv]; decide)).trans (if_pos c_58) | exact (if_neg (by rw [hkv]; decide)).trans (if_neg c_58) | exact (if_neg (by rw [hkv]; decide)).trans (if_neg (by rw [c_58]; decide)) | exact (if_neg hkv).trans (if_pos c_76) | exact (if_neg hkv).trans (if_neg c_76) | exact (if_neg hkv).trans (if_neg (by rw [c_76]; decide)) | exact (if_neg (by rw [hkv]; decide)).trans (if_pos c_76) | exact (if_neg (by rw [hkv]; decide)).trans (if_neg c_76) | exact (if_neg (by rw [hkv]; decide)).trans (if_neg (by rw [c_76]; decide)) | exact (if_neg c_76).trans (if_pos c_11) | exact (if_neg c_76).trans (if_neg c_11) | exact (if_neg c_76).trans (if_neg (by rw [c_11]; decide)) | exact (if_neg (by rw [c_76]; decide)).trans (if_pos c_11) | exact (if_neg (by rw [c_76]; decide)).trans (if_neg c_11) | exact (if_neg (by rw [c_76]; decide)).trans (if_neg (by rw [c_11]; decide)) | exact (if_neg c_76).trans (if_pos c_43) | exact (if_neg c_76).trans (if_neg c_43) | exact (if_neg c_76).trans (if_neg (by rw [c_43]; decide)) | exact (if_neg (by rw [c_76]; decide)).trans (if_pos c_43) | exact (if_neg (by rw [c_76]; decide)).trans (if_neg c_43) | exact (if_neg (by rw [c_76]; decide)).trans (if_neg (by rw [c_43]; decide)) | exact (if_neg c_76).trans (if_pos c_58) | exact (if_neg c_76).trans (if_neg c_58) | exact (if_neg c_76).trans (if_neg (by rw [c_58]; decide)) | exact (if_neg (by rw [c_76]; decide)).trans (if_pos c_58) | exact (if_neg (by rw [c_76]; decide)).trans (if_neg c_58) | exact (if_neg (by rw [c_76]; decide)).trans (if_neg (by rw [c_58]; decide)) | exact (if_neg c_76).trans (if_pos hkv) | exact (if_neg c_76).trans (if_neg hkv) | exact (if_neg c_76).trans (if_neg (by rw [hkv]; decide)) | exact (if_neg (by rw [c_76]; decide)).trans (if_pos hkv) | exact (if_neg (by rw [c_76]; decide)).trans (if_neg hkv) | exact (if_neg (by rw [c_76]; decide)).trans (if_neg (by rw [hkv]; decide)))
              have e_2 : nI (cn - (kv + 1)) - 1 = (nI (cn - 1 - kv)) + (-1) := by rw [Int32.sub_eq_add_neg, show cn - (kv + 1) = cn - 1 - kv by omega]
              exact ⟨by (try rw [e_1]); (try rw [e_2]); exact lv_sub hl [2, 3, 4, 0] rfl, trivial⟩
            · refine lv_aload_n hx hb d_T_countThinned_80 rfl (lv_at hl 1 rfl) ?_
              refine lv_lload hx hb d_T_countThinned_81 (lv_at hl 0 rfl) ?_
              have hPc := hP.sub (ws' := [(ad 2, eT ad (nI cn) due lon), (ad 13, eL 81 (ca 13) pla)]) [0, 2] rfl
              have hKc := hK.sub (tys' := [(ca 13, .long)]) [1] rfl
              refine vp_callSi (W.runV (As := [.long ((fo (mc_th2f pla due cn) kv (fo (mc_thf num fm) cn 0)) &&& ((zo (cn - 1 - kv)) ^^^ (-1)))]) (rest := []) ⟨hx, hb, hml, hown, hts⟩ (c_isCover l dC dI ad ca cn hc due lon pla ((fo (mc_th2f pla due cn) kv (fo (mc_thf num fm) cn 0)) &&& ((zo (cn - 1 - kv)) ^^^ (-1)))) (cwV 1 hts (gd_V mw_318 mw_319 mw_320 mw_42 mw_321) rfl rfl rfl (by decide +kernel) ⟨Nat.le_of_ble_eq_true rfl, Nat.le_of_ble_eq_true rfl⟩) (kr_V (q0 := 0) (ci := 0) hKc hPc rfl rfl) rfl rfl hl.1 rfl (lv_room (Nat.le_of_ble_eq_true rfl)) d_T_countThinned_83 ⟨Nat.zero_le _, Nat.zero_le _⟩) (fun r hq => ?_)
              subst hq
              refine k_beq (b := (decide (fo (mc_covf pla ((fo (mc_th2f pla due cn) kv (fo (mc_thf num fm) cn 0)) &&& ((zo (cn - 1 - kv)) ^^^ (-1)))) cn 0 = due))) (tgt := 92) hx hb d_T_countThinned_86 (by decide) (fun c_86 => ?_) (fun c_86 => ?_)
              · refine lv_iinc (v := (nI (cn - 1 - kv)) + (-1)) (lv' := [(4, .int ((nI (cn - 1 - kv)) + (-1))), (5, .long ((fo (mc_th2f pla due cn) kv (fo (mc_thf num fm) cn 0)) &&& ((zo (cn - 1 - kv)) ^^^ (-1)))), (0, .ref (ad 2)), (1, .int fm), (2, .long (fo (mc_th2f pla due cn) kv (fo (mc_thf num fm) cn 0)))]) hx hb d_T_countThinned_92 hl (k := 4) rfl rfl (by decide) rfl (fun ls hl => ?_)
                refine lv_goto (tgt := 56) hx hb d_T_countThinned_95 (by decide) ?_
                refine ihkv _ (by omega) ?_
                have e_3 : fo (mc_th2f pla due cn) (kv + 1) (fo (mc_thf num fm) cn 0) = fo (mc_th2f pla due cn) kv (fo (mc_thf num fm) cn 0) := by rw [fo_s]; (first | rfl | exact if_pos c_11 | exact if_neg c_11 | exact if_neg (by rw [c_11]; decide) | exact if_pos c_43 | exact if_neg c_43 | exact if_neg (by rw [c_43]; decide) | exact if_pos c_58 | exact if_neg c_58 | exact if_neg (by rw [c_58]; decide) | exact if_pos hkv | exact if_neg hkv | exact if_neg (by rw [hkv]; decide) | exact if_pos c_76 | exact if_neg c_76 | exact if_neg (by rw [c_76]; decide) | exact if_pos c_86 | exact if_neg c_86 | exact if_neg (by rw [c_86]; decide) | exact (if_neg c_11).trans (if_pos c_43) | exact (if_neg c_11).trans (if_neg c_43) | exact (if_neg c_11).trans (if_neg (by rw [c_43]; decide)) | exact (if_neg (by rw [c_11]; decide)).trans (if_pos c_43) | exact (if_neg (by rw [c_11]; decide)).trans (if_neg c_43) | exact (if_neg (by rw [c_11]; decide)).trans (if_neg (by rw [c_43]; decide)) | exact (if_neg c_11).trans (if_pos c_58) | exact (if_neg c_11).trans (if_neg c_58) | exact (if_neg c_11).trans (if_neg (by rw [c_58]; decide)) | exact (if_neg (by rw [c_11]; decide)).trans (if_pos c_58) | exact (if_neg (by rw [c_11]; decide)).trans (if_neg c_58) | exact (if_neg (by rw [c_11]; decide)).trans (if_neg (by rw [c_58]; decide)) | exact (if_neg c_11).trans (if_pos hkv) | exact (if_neg c_11).trans (if_neg hkv) | exact (if_neg c_11).trans (if_neg (by rw [hkv]; decide)) | exact (if_neg (by rw [c_11]; decide)).trans (if_pos hkv) | exact (if_neg (by rw [c_11]; decide)).trans (if_neg hkv) | exact (if_neg (by rw [c_11]; decide)).trans (if_neg (by rw [hkv]; decide)) | exact (if_neg c_11).trans (if_pos c_76) | exact (if_neg c_11).trans (if_neg c_76) | exact (if_neg c_11).trans (if_neg (by rw [c_76]; decide)) | exact (if_neg (by rw [c_11]; decide)).trans (if_pos c_76) | exact (if_neg (by rw [c_11]; decide)).trans (if_neg c_76) | exact (if_neg (by rw [c_11]; decide)).trans (if_neg (by rw [c_76]; decide)) | exact (if_neg c_11).trans (if_pos c_86) | exact (if_neg c_11).trans (if_neg c_86) | exact (if_neg c_11).trans (if_neg (by rw [c_86]; decide)) | exact (if_neg (by rw [c_11]; decide)).trans (if_pos c_86) | exact (if_neg (by rw [c_11]; decide)).trans (if_neg c_86) | exact (if_neg (by rw [c_11]; decide)).trans (if_neg (by rw [c_86]; decide)) | exact (if_neg c_43).trans (if_pos c_11) | exact (if_neg c_43).trans (if_neg c_11) | exact (if_neg c_43).trans (if_neg (by rw [c_11]; decide)) | exact (if_neg (by rw [c_43]; decide)).trans (if_pos c_11) | exact (if_neg (by rw [c_43]; decide)).trans (if_neg c_11) | exact (if_neg (by rw [c_43]; decide)).trans (if_neg (by rw [c_11]; decide)) | exact (if_neg c_43).trans (if_pos c_58) | exact (if_neg c_43).trans (if_neg c_58) | exact (if_neg c_43).trans (if_neg (by rw [c_58]; decide)) | exact (if_neg (by rw [c_43]; decide)).trans (if_pos c_58) | exact (if_neg (by rw [c_43]; decide)).trans (if_neg c_58) | exact (if_neg (by rw [c_43]; decide)).trans (if_neg (by rw [c_58]; decide)) | exact (if_neg c_43).trans (if_pos hkv) | exact (if_neg c_43).trans (if_neg hkv) | exact (if_neg c_43).trans (if_neg (by rw [hkv]; decide)) | exact (if_neg (by rw [c_43]; decide)).trans (if_pos hkv) | exact (if_neg (by rw [c_43]; decide)).trans (if_neg hkv) | exact (if_neg (by rw [c_43]; decide)).trans (if_neg (by rw [hkv]; decide)) | exact (if_neg c_43).trans (if_pos c_76) | exact (if_neg c_43).trans (if_neg c_76) | exact (if_neg c_43).trans (if_neg (by rw [c_76]; decide)) | exact (if_neg (by rw [c_43]; decide)).trans (if_pos c_76) | exact (if_neg (by rw [c_43]; decide)).trans (if_neg c_76) | exact (if_neg (by rw [c_43]; decide)).trans (if_neg (by rw [c_76]; decide)) | exact (if_neg c_43).trans (if_pos c_86) | exact (if_neg c_43).trans (if_neg c_86) | exact (if_neg c_43).trans (if_neg (by rw [c_86]; decide)) | exact (if_neg (by rw [c_43]; decide)).trans (if_pos c_86) | exact (if_neg (by rw [c_43]; decide)).trans (if_neg c_86) | exact (if_neg (by rw [c_43]; decide)).trans (if_neg (by rw [c_86]; decide)) | exact (if_neg c_58).trans (if_pos c_11) | exact (if_neg c_58).trans (if_neg c_11) | exact (if_neg c_58).trans (if_neg (by rw [c_11]; decide)) | exact (if_neg (by rw [c_58]; decide)).trans (if_pos c_11) | exact (if_neg (by rw [c_58]; decide)).trans (if_neg c_11) | exact (if_neg (by rw [c_58]; decide)).trans (if_neg (by rw [c_11]; decide)) | exact (if_neg c_58).trans (if_pos c_43) | exact (if_neg c_58).trans (if_neg c_43) | exact (if_neg c_58).trans (if_neg (by rw [c_43]; decide)) | exact (if_neg (by rw [c_58]; decide)).trans (if_pos c_43) | exact (if_neg (by rw [c_58]; decide)).trans (if_neg c_43) | exact (if_neg (by rw [c_58]; decide)).trans (if_neg (by rw [c_43]; decide)) | exact (if_neg c_58).trans (if_pos hkv) | exact (if_neg c_58).trans (if_neg hkv) | exact (if_neg c_58).trans (if_neg (by rw [hkv]; decide)) | exact (if_neg (by rw [c_58]; decide)).trans (if_pos hkv) | exact (if_neg (by rw [c_58]; decide)).trans (if_neg hkv) | exact (if_neg (by rw [c_58]; decide)).trans (if_neg (by rw [hkv]; decide)) | exact (if_neg c_58).trans (if_pos c_76) | exact (if_neg c_58).trans (if_neg c_76) | exact (if_neg c_58).trans (if_neg (by rw [c_76]; decide)) | exact (if_neg (by rw [c_58]; decide)).trans (if_pos c_76) | exact (if_neg (by rw [c_58]; decide)).trans (if_neg c_76) | exact (if_neg (by rw [c_58]; decide)).trans (if_neg (by rw [c_76]; decide)) | exact (if_neg c_58).trans (if_pos c_86) | exact (if_neg c_58).trans (if_neg c_86) | exact (if_neg c_58).trans (if_neg (by rw [c_86]; decide)) | exact (if_neg (by rw [c_58]; decide)).trans (if_pos c_86) | exact (if_neg (by rw [c_58]; decide)).trans (if_neg c_86) | exact (if_neg (by rw [c_58]; decide)).trans (if_neg (by rw [c_86]; decide)) | exact (if_neg hkv).trans (if_pos c_11) | exact (if_neg hkv).trans (if_neg c_11) | exact (if_neg hkv).trans (if_neg (by rw [c_11]; decide)) | exact (if_neg (by rw [hkv]; decide)).trans (if_pos c_11) | exact (if_neg (by rw [hkv]; decide)).trans (if_neg c_11) | exact (if_neg (by rw [hkv]; decide)).trans (if_neg (by rw [c_11]; decide)) | exact (if_neg hkv).trans (if_pos c_43) | exact (if_neg hkv).trans (if_neg c_43) | exact (if_neg hkv).trans (if_neg (by rw [c_43]; decide)) | exact (if_neg (by rw [hkv]; decide)).trans (if_pos c_43) | exact (if_neg (by rw [hkv]; decide)).trans (if_neg c_43) | exact (if_neg (by rw [hkv]; decide)).trans (if_neg (by rw [c_43]; decide)) | exact (if_neg hkv).trans (if_pos c_58) | exact (if_neg hkv).trans (if_neg c_58) | exact (if_neg hkv).trans (if_neg (by rw [c_58]; decide)) | exact (if_neg (by rw [hkv]; decide)).trans (if_pos c_58) | exact (if_neg (by rw [hkv]; decide)).trans (if_neg c_58) | exact (if_neg (by rw [hkv]; decide)).trans (if_neg (by rw [c_58]; decide)) | exact (if_neg hkv).trans (if_pos c_76) | exact (if_neg hkv).trans (if_neg c_76) | exact (if_neg hkv).trans (if_neg (by rw [c_76]; decide)) | exact (if_neg (by rw [hkv]; decide)).trans (if_pos c_76) | exact (if_neg (by rw [hkv]; decide)).trans (if_neg c_76) | exact (if_neg (by rw [hkv]; decide)).trans (if_neg (by rw [c_76]; decide)) | exact (if_neg hkv).trans (if_pos c_86) | exact (if_neg hkv).trans (if_neg c_86) | exact (if_neg hkv).trans (if_neg (by rw [c_86]; decide)) | exact (if_neg (by rw [hkv]; decide)).trans (if_pos c_86) | exact (if_neg (by rw [hkv]; decide)).trans (if_neg c_86) | exact (if_neg (by rw [hkv]; decide)).trans (if_neg (by rw [c_86]; decide)) | exact (if_neg c_76).trans (if_pos c_11) | exact (if_neg c_76).trans (if_neg c_11) | exact (if_neg c_76).trans (if_neg (by rw [c_11]; decide)) | exact (if_neg (by rw [c_76]; decide)).trans (if_pos c_11) | exact (if_neg (by rw [c_76]; decide)).trans (if_neg c_11) | exact (if_neg (by rw [c_76]; decide)).trans (if_neg (by rw [c_11]; decide)) | exact (if_neg c_76).trans (if_pos c_43) | exact (if_neg c_76).trans (if_neg c_43) | exact (if_neg c_76).trans (if_neg (by rw [c_43]; decide)) | exact (if_neg (by rw [c_76]; decide)).trans (if_pos c_43) | exact (if_neg (by rw [c_76]; decide)).trans (if_neg c_43) | exact (if_neg (by rw [c_76]; decide)).trans (if_neg (by rw [c_43]; decide)) | exact (if_neg c_76).trans (if_pos c_58) | exact (if_neg c_76).trans (if_neg c_58) | exact (if_neg c_76).trans (if_neg (by rw [c_58]; decide)) | exact (if_neg (by rw [c_76]; decide)).trans (if_pos c_58) | exact (if_neg (by rw [c_76]; decide)).trans (if_neg c_58) | exact (if_neg (by rw [c_76]; decide)).trans (if_neg (by rw [c_58]; decide)) | exact (if_neg c_76).trans (if_pos hkv) | exact (if_neg c_76).trans (if_neg hkv) | exact (if_neg c_76).trans (if_neg (by rw [hkv]; decide)) | exact (if_neg (by rw [c_76]; decide)).trans (if_pos hkv) | exact (if_neg (by rw [c_76]; decide)).trans (if_neg hkv) | exact (if_neg (by rw [c_76]; decide)).trans (if_neg (by rw [hkv]; decide)) | exact (if_neg c_76).trans (if_pos c_86) | exact (if_neg c_76).trans (if_neg c_86) | exact (if_neg c_76).trans (if_neg (by rw [c_86]; decide)) | exact (if_neg (by rw [c_76]; decide)).trans (if_pos c_86) | exact (if_neg (by rw [c_76]; decide)).trans (if_neg c_86) | exact (if_neg (by rw [c_76]; decide)).trans (if_neg (by rw [c_86]; decide)) | exact (if_neg c_86).trans (if_pos c_11) | exact (if_neg c_86).trans (if_neg c_11) | exact (if_neg c_86).trans (if_neg (by rw [c_11]; decide)) | exact (if_neg (by rw [c_86]; decide)).trans (if_pos c_11) | exact (if_neg (by rw [c_86]; decide)).trans (if_neg c_11) | exact (if_neg (by rw [c_86]; decide)).trans (if_neg (by rw [c_11]; decide)) | exact (if_neg c_86).trans (if_pos c_43) | exact (if_neg c_86).trans (if_neg c_43) | exact (if_neg c_86).trans (if_neg (by rw [c_43]; decide)) | exact (if_neg (by rw [c_86]; decide)).trans (if_pos c_43) | exact (if_neg (by rw [c_86]; decide)).trans (if_neg c_43) | exact (if_neg (by rw [c_86]; decide)).trans (if_neg (by rw [c_43]; decide)) | exact (if_neg c_86).trans (if_pos c_58) | exact (if_neg c_86).trans (if_neg c_58) | exact (if_neg c_86).trans (if_neg (by rw [c_58]; decide)) | exact (if_neg (by rw [c_86]; decide)).trans (if_pos c_58) | exact (if_neg (by rw [c_86]; decide)).trans (if_neg c_58) | exact (if_neg (by rw [c_86]; decide)).trans (if_neg (by rw [c_58]; decide)) | exact (if_neg c_86).trans (if_pos hkv) | exact (if_neg c_86).trans (if_neg hkv) | exact (if_neg c_86).trans (if_neg (by rw [hkv]; decide)) | exact (if_neg (by rw [c_86]; decide)).trans (if_pos hkv) | exact (if_neg (by rw [c_86]; decide)).trans (if_neg hkv) | exact (if_neg (by rw [c_86]; decide)).trans (if_neg (by rw [hkv]; decide)) | exact (if_neg c_86).trans (if_pos c_76) | exact (if_neg c_86).trans (if_neg c_76) | exact (if_neg c_86).trans (if_neg (by rw [c_76]; decide)) | exact (if_neg (by rw [c_86]; decide)).trans (if_pos c_76) | exact (if_neg (by rw [c_86]; decide)).trans (if_neg c_76) | exact (if_neg (by rw [c_86]; decide)).trans (if_neg (by rw [c_76]; decide)))
                have e_4 : nI (cn - (kv + 1)) - 1 = (nI (cn - 1 - kv)) + (-1) := by rw [Int32.sub_eq_add_neg, show cn - (kv + 1) = cn - 1 - kv by omega]
                exact ⟨by (try rw [e_3]); (try rw [e_4]); exact lv_sub hl [2, 3, 4, 0] rfl, trivial⟩
              · refine lv_lload hx hb d_T_countThinned_89 (lv_at hl 0 rfl) ?_
                refine lv_lstore_n (lv' := [(2, .long ((fo (mc_th2f pla due cn) kv (fo (mc_thf num fm) cn 0)) &&& ((zo (cn - 1 - kv)) ^^^ (-1)))), (5, .long ((fo (mc_th2f pla due cn) kv (fo (mc_thf num fm) cn 0)) &&& ((zo (cn - 1 - kv)) ^^^ (-1)))), (0, .ref (ad 2)), (1, .int fm), (4, .int (nI (cn - 1 - kv)))]) hx hb d_T_countThinned_91 rfl hl (by decide) rfl (fun ls hl => ?_)
                refine lv_iinc (v := (nI (cn - 1 - kv)) + (-1)) (lv' := [(4, .int ((nI (cn - 1 - kv)) + (-1))), (2, .long ((fo (mc_th2f pla due cn) kv (fo (mc_thf num fm) cn 0)) &&& ((zo (cn - 1 - kv)) ^^^ (-1)))), (5, .long ((fo (mc_th2f pla due cn) kv (fo (mc_thf num fm) cn 0)) &&& ((zo (cn - 1 - kv)) ^^^ (-1)))), (0, .ref (ad 2)), (1, .int fm)]) hx hb d_T_countThinned_92 hl (k := 4) rfl rfl (by decide) rfl (fun ls hl => ?_)
                refine lv_goto (tgt := 56) hx hb d_T_countThinned_95 (by decide) ?_
                refine ihkv _ (by omega) ?_
                have e_5 : fo (mc_th2f pla due cn) (kv + 1) (fo (mc_thf num fm) cn 0) = (fo (mc_th2f pla due cn) kv (fo (mc_thf num fm) cn 0)) &&& ((zo (cn - 1 - kv)) ^^^ (-1)) := by rw [fo_s]; (first | rfl | exact if_pos c_11 | exact if_neg c_11 | exact if_neg (by rw [c_11]; decide) | exact if_pos c_43 | exact if_neg c_43 | exact if_neg (by rw [c_43]; decide) | exact if_pos c_58 | exact if_neg c_58 | exact if_neg (by rw [c_58]; decide) | exact if_pos hkv | exact if_neg hkv | exact if_neg (by rw [hkv]; decide) | exact if_pos c_76 | exact if_neg c_76 | exact if_neg (by rw [c_76]; decide) | exact if_pos c_86 | exact if_neg c_86 | exact if_neg (by rw [c_86]; decide) | exact (if_neg c_11).trans (if_pos c_43) | exact (if_neg c_11).trans (if_neg c_43) | exact (if_neg c_11).trans (if_neg (by rw [c_43]; decide)) | exact (if_neg (by rw [c_11]; decide)).trans (if_pos c_43) | exact (if_neg (by rw [c_11]; decide)).trans (if_neg c_43) | exact (if_neg (by rw [c_11]; decide)).trans (if_neg (by rw [c_43]; decide)) | exact (if_neg c_11).trans (if_pos c_58) | exact (if_neg c_11).trans (if_neg c_58) | exact (if_neg c_11).trans (if_neg (by rw [c_58]; decide)) | exact (if_neg (by rw [c_11]; decide)).trans (if_pos c_58) | exact (if_neg (by rw [c_11]; decide)).trans (if_neg c_58) | exact (if_neg (by rw [c_11]; decide)).trans (if_neg (by rw [c_58]; decide)) | exact (if_neg c_11).trans (if_pos hkv) | exact (if_neg c_11).trans (if_neg hkv) | exact (if_neg c_11).trans (if_neg (by rw [hkv]; decide)) | exact (if_neg (by rw [c_11]; decide)).trans (if_pos hkv) | exact (if_neg (by rw [c_11]; decide)).trans (if_neg hkv) | exact (if_neg (by rw [c_11]; decide)).trans (if_neg (by rw [hkv]; decide)) | exact (if_neg c_11).trans (if_pos c_76) | exact (if_neg c_11).trans (if_neg c_76) | exact (if_neg c_11).trans (if_neg (by rw [c_76]; decide)) | exact (if_neg (by rw [c_11]; decide)).trans (if_pos c_76) | exact (if_neg (by rw [c_11]; decide)).trans (if_neg c_76) | exact (if_neg (by rw [c_11]; decide)).trans (if_neg (by rw [c_76]; decide)) | exact (if_neg c_11).trans (if_pos c_86) | exact (if_neg c_11).trans (if_neg c_86) | exact (if_neg c_11).trans (if_neg (by rw [c_86]; decide)) | exact (if_neg (by rw [c_11]; decide)).trans (if_pos c_86) | exact (if_neg (by rw [c_11]; decide)).trans (if_neg c_86) | exact (if_neg (by rw [c_11]; decide)).trans (if_neg (by rw [c_86]; decide)) | exact (if_neg c_43).trans (if_pos c_11) | exact (if_neg c_43).trans (if_neg c_11) | exact (if_neg c_43).trans (if_neg (by rw [c_11]; decide)) | exact (if_neg (by rw [c_43]; decide)).trans (if_pos c_11) | exact (if_neg (by rw [c_43]; decide)).trans (if_neg c_11) | exact (if_neg (by rw [c_43]; decide)).trans (if_neg (by rw [c_11]; decide)) | exact (if_neg c_43).trans (if_pos c_58) | exact (if_neg c_43).trans (if_neg c_58) | exact (if_neg c_43).trans (if_neg (by rw [c_58]; decide)) | exact (if_neg (by rw [c_43]; decide)).trans (if_pos c_58) | exact (if_neg (by rw [c_43]; decide)).trans (if_neg c_58) | exact (if_neg (by rw [c_43]; decide)).trans (if_neg (by rw [c_58]; decide)) | exact (if_neg c_43).trans (if_pos hkv) | exact (if_neg c_43).trans (if_neg hkv) | exact (if_neg c_43).trans (if_neg (by rw [hkv]; decide)) | exact (if_neg (by rw [c_43]; decide)).trans (if_pos hkv) | exact (if_neg (by rw [c_43]; decide)).trans (if_neg hkv) | exact (if_neg (by rw [c_43]; decide)).trans (if_neg (by rw [hkv]; decide)) | exact (if_neg c_43).trans (if_pos c_76) | exact (if_neg c_43).trans (if_neg c_76) | exact (if_neg c_43).trans (if_neg (by rw [c_76]; decide)) | exact (if_neg (by rw [c_43]; decide)).trans (if_pos c_76) | exact (if_neg (by rw [c_43]; decide)).trans (if_neg c_76) | exact (if_neg (by rw [c_43]; decide)).trans (if_neg (by rw [c_76]; decide)) | exact (if_neg c_43).trans (if_pos c_86) | exact (if_neg c_43).trans (if_neg c_86) | exact (if_neg c_43).trans (if_neg (by rw [c_86]; decide)) | exact (if_neg (by rw [c_43]; decide)).trans (if_pos c_86) | exact (if_neg (by rw [c_43]; decide)).trans (if_neg c_86) | exact (if_neg (by rw [c_43]; decide)).trans (if_neg (by rw [c_86]; decide)) | exact (if_neg c_58).trans (if_pos c_11) | exact (if_neg c_58).trans (if_neg c_11) | exact (if_neg c_58).trans (if_neg (by rw [c_11]; decide)) | exact (if_neg (by rw [c_58]; decide)).trans (if_pos c_11) | exact (if_neg (by rw [c_58]; decide)).trans (if_neg c_11) | exact (if_neg (by rw [c_58]; decide)).trans (if_neg (by rw [c_11]; decide)) | exact (if_neg c_58).trans (if_pos c_43) | exact (if_neg c_58).trans (if_neg c_43) | exact (if_neg c_58).trans (if_neg (by rw [c_43]; decide)) | exact (if_neg (by rw [c_58]; decide)).trans (if_pos c_43) | exact (if_neg (by rw [c_58]; decide)).trans (if_neg c_43) | exact (if_neg (by rw [c_58]; decide)).trans (if_neg (by rw [c_43]; decide)) | exact (if_neg c_58).trans (if_pos hkv) | exact (if_neg c_58).trans (if_neg hkv) | exact (if_neg c_58).trans (if_neg (by rw [hkv]; decide)) | exact (if_neg (by rw [c_58]; decide)).trans (if_pos hkv) | exact (if_neg (by rw [c_58]; decide)).trans (if_neg hkv) | exact (if_neg (by rw [c_58]; decide)).trans (if_neg (by rw [hkv]; decide)) | exact (if_neg c_58).trans (if_pos c_76) | exact (if_neg c_58).trans (if_neg c_76) | exact (if_neg c_58).trans (if_neg (by rw [c_76]; decide)) | exact (if_neg (by rw [c_58]; decide)).trans (if_pos c_76) | exact (if_neg (by rw [c_58]; decide)).trans (if_neg c_76) | exact (if_neg (by rw [c_58]; decide)).trans (if_neg (by rw [c_76]; decide)) | exact (if_neg c_58).trans (if_pos c_86) | exact (if_neg c_58).trans (if_neg c_86) | exact (if_neg c_58).trans (if_neg (by rw [c_86]; decide)) | exact (if_neg (by rw [c_58]; decide)).trans (if_pos c_86) | exact (if_neg (by rw [c_58]; decide)).trans (if_neg c_86) | exact (if_neg (by rw [c_58]; decide)).trans (if_neg (by rw [c_86]; decide)) | exact (if_neg hkv).trans (if_pos c_11) | exact (if_neg hkv).trans (if_neg c_11) | exact (if_neg hkv).trans (if_neg (by rw [c_11]; decide)) | exact (if_neg (by rw [hkv]; decide)).trans (if_pos c_11) | exact (if_neg (by rw [hkv]; decide)).trans (if_neg c_11) | exact (if_neg (by rw [hkv]; decide)).trans (if_neg (by rw [c_11]; decide)) | exact (if_neg hkv).trans (if_pos c_43) | exact (if_neg hkv).trans (if_neg c_43) | exact (if_neg hkv).trans (if_neg (by rw [c_43]; decide)) | exact (if_neg (by rw [hkv]; decide)).trans (if_pos c_43) | exact (if_neg (by rw [hkv]; decide)).trans (if_neg c_43) | exact (if_neg (by rw [hkv]; decide)).trans (if_neg (by rw [c_43]; decide)) | exact (if_neg hkv).trans (if_pos c_58) | exact (if_neg hkv).trans (if_neg c_58) | exact (if_neg hkv).trans (if_neg (by rw [c_58]; decide)) | exact (if_neg (by rw [hkv]; decide)).trans (if_pos c_58) | exact (if_neg (by rw [hkv]; decide)).trans (if_neg c_58) | exact (if_neg (by rw [hkv]; decide)).trans (if_neg (by rw [c_58]; decide)) | exact (if_neg hkv).trans (if_pos c_76) | exact (if_neg hkv).trans (if_neg c_76) | exact (if_neg hkv).trans (if_neg (by rw [c_76]; decide)) | exact (if_neg (by rw [hkv]; decide)).trans (if_pos c_76) | exact (if_neg (by rw [hkv]; decide)).trans (if_neg c_76) | exact (if_neg (by rw [hkv]; decide)).trans (if_neg (by rw [c_76]; decide)) | exact (if_neg hkv).trans (if_pos c_86) | exact (if_neg hkv).trans (if_neg c_86) | exact (if_neg hkv).trans (if_neg (by rw [c_86]; decide)) | exact (if_neg (by rw [hkv]; decide)).trans (if_pos c_86) | exact (if_neg (by rw [hkv]; decide)).trans (if_neg c_86) | exact (if_neg (by rw [hkv]; decide)).trans (if_neg (by rw [c_86]; decide)) | exact (if_neg c_76).trans (if_pos c_11) | exact (if_neg c_76).trans (if_neg c_11) | exact (if_neg c_76).trans (if_neg (by rw [c_11]; decide)) | exact (if_neg (by rw [c_76]; decide)).trans (if_pos c_11) | exact (if_neg (by rw [c_76]; decide)).trans (if_neg c_11) | exact (if_neg (by rw [c_76]; decide)).trans (if_neg (by rw [c_11]; decide)) | exact (if_neg c_76).trans (if_pos c_43) | exact (if_neg c_76).trans (if_neg c_43) | exact (if_neg c_76).trans (if_neg (by rw [c_43]; decide)) | exact (if_neg (by rw [c_76]; decide)).trans (if_pos c_43) | exact (if_neg (by rw [c_76]; decide)).trans (if_neg c_43) | exact (if_neg (by rw [c_76]; decide)).trans (if_neg (by rw [c_43]; decide)) | exact (if_neg c_76).trans (if_pos c_58) | exact (if_neg c_76).trans (if_neg c_58) | exact (if_neg c_76).trans (if_neg (by rw [c_58]; decide)) | exact (if_neg (by rw [c_76]; decide)).trans (if_pos c_58) | exact (if_neg (by rw [c_76]; decide)).trans (if_neg c_58) | exact (if_neg (by rw [c_76]; decide)).trans (if_neg (by rw [c_58]; decide)) | exact (if_neg c_76).trans (if_pos hkv) | exact (if_neg c_76).trans (if_neg hkv) | exact (if_neg c_76).trans (if_neg (by rw [hkv]; decide)) | exact (if_neg (by rw [c_76]; decide)).trans (if_pos hkv) | exact (if_neg (by rw [c_76]; decide)).trans (if_neg hkv) | exact (if_neg (by rw [c_76]; decide)).trans (if_neg (by rw [hkv]; decide)) | exact (if_neg c_76).trans (if_pos c_86) | exact (if_neg c_76).trans (if_neg c_86) | exact (if_neg c_76).trans (if_neg (by rw [c_86]; decide)) | exact (if_neg (by rw [c_76]; decide)).trans (if_pos c_86) | exact (if_neg (by rw [c_76]; decide)).trans (if_neg c_86) | exact (if_neg (by rw [c_76]; decide)).trans (if_neg (by rw [c_86]; decide)) | exact (if_neg c_86).trans (if_pos c_11) | exact (if_neg c_86).trans (if_neg c_11) | exact (if_neg c_86).trans (if_neg (by rw [c_11]; decide)) | exact (if_neg (by rw [c_86]; decide)).trans (if_pos c_11) | exact (if_neg (by rw [c_86]; decide)).trans (if_neg c_11) | exact (if_neg (by rw [c_86]; decide)).trans (if_neg (by rw [c_11]; decide)) | exact (if_neg c_86).trans (if_pos c_43) | exact (if_neg c_86).trans (if_neg c_43) | exact (if_neg c_86).trans (if_neg (by rw [c_43]; decide)) | exact (if_neg (by rw [c_86]; decide)).trans (if_pos c_43) | exact (if_neg (by rw [c_86]; decide)).trans (if_neg c_43) | exact (if_neg (by rw [c_86]; decide)).trans (if_neg (by rw [c_43]; decide)) | exact (if_neg c_86).trans (if_pos c_58) | exact (if_neg c_86).trans (if_neg c_58) | exact (if_neg c_86).trans (if_neg (by rw [c_58]; decide)) | exact (if_neg (by rw [c_86]; decide)).trans (if_pos c_58) | exact (if_neg (by rw [c_86]; decide)).trans (if_neg c_58) | exact (if_neg (by rw [c_86]; decide)).trans (if_neg (by rw [c_58]; decide)) | exact (if_neg c_86).trans (if_pos hkv) | exact (if_neg c_86).trans (if_neg hkv) | exact (if_neg c_86).trans (if_neg (by rw [hkv]; decide)) | exact (if_neg (by rw [c_86]; decide)).trans (if_pos hkv) | exact (if_neg (by rw [c_86]; decide)).trans (if_neg hkv) | exact (if_neg (by rw [c_86]; decide)).trans (if_neg (by rw [hkv]; decide)) | exact (if_neg c_86).trans (if_pos c_76) | exact (if_neg c_86).trans (if_neg c_76) | exact (if_neg c_86).trans (if_neg (by rw [c_76]; decide)) | exact (if_neg (by rw [c_86]; decide)).trans (if_pos c_76) | exact (if_neg (by rw [c_86]; decide)).trans (if_neg c_76) | exact (if_neg (by rw [c_86]; decide)).trans (if_neg (by rw [c_76]; decide)))
                have e_6 : nI (cn - (kv + 1)) - 1 = (nI (cn - 1 - kv)) + (-1) := by rw [Int32.sub_eq_add_neg, show cn - (kv + 1) = cn - 1 - kv by omega]
                exact ⟨by (try rw [e_5]); (try rw [e_6]); exact lv_sub hl [3, 4, 1, 0] rfl, trivial⟩
        · have hdone : True := trivial
          have e_7 : fo (mc_th2f pla due cn) 0 (fo (mc_thf num fm) cn 0) = fo (mc_thf num fm) cn 0 := rfl
          have e_8 : nI (cn - 0) - 1 = (nI cn) - 1 := rfl
          exact ⟨by (try rw [e_7]); (try rw [e_8]); exact lv_sub hl [1, 2, 3, 0] rfl, trivial⟩
      · refine lv_iconst (v := (-1)) hx hb d_T_countThinned_46 (by decide) ?_
        exact W.iret (v := (-1)) hx hb hr (fun t ht hW => ⟨(-1), rfl, by unfold mc_thin; rw [if_neg (by rw [c_43]; decide)], ht⟩) (fun q h => by cases h) d_T_countThinned_47
    · refine lv_aload_n hx hb d_T_countThinned_14 rfl (lv_at hl 0 rfl) ?_
      refine va_get (D := (dC, dI)) (ci := 0) (v := .ref (ad 9)) (C := R_T) (T := F_T) (N := 10) hx hb hts (hin_of in_T) hown hK hP 0 rfl rfl 0 (by decide) (hw_of hts mw_96) (fun _ h9 => h9) rfl d_T_countThinned_15 ?_
      refine lv_iload hx hb d_T_countThinned_18 (lv_at hl 3 rfl) ?_
      refine k_iald (k := iv) hx hb hK hP 1 0 rfl rfl rfl (by omega) (by decide) d_T_countThinned_20 ?_
      refine lv_iload_n hx hb d_T_countThinned_21 rfl (lv_at hl 1 rfl) ?_
      refine lv_icmp_lt (tgt := 32) hx hb d_T_countThinned_22 (by decide) (fun c_22 => ?_) (fun c_22 => ?_)
      · refine lv_iinc (v := nI (iv + 1)) (lv' := [(4, .int (nI (iv + 1))), (0, .ref (ad 2)), (1, .int fm), (2, .long (fo (mc_thf num fm) iv 0))]) hx hb d_T_countThinned_32 hl (k := 3) rfl (k_inc _) (by decide) rfl (fun ls hl => ?_)
        refine lv_goto (tgt := 5) hx hb d_T_countThinned_35 (by decide) ?_
        refine ihiv _ (by omega) ?_
        have e_9 : fo (mc_thf num fm) (iv + 1) 0 = fo (mc_thf num fm) iv 0 := by rw [fo_s]; (first | rfl | exact if_pos c_11 | exact if_neg c_11 | exact if_neg (by rw [c_11]; decide) | exact if_pos c_22 | exact if_neg c_22 | exact if_neg (by rw [c_22]; decide) | exact (if_neg c_11).trans (if_pos c_22) | exact (if_neg c_11).trans (if_neg c_22) | exact (if_neg c_11).trans (if_neg (by rw [c_22]; decide)) | exact (if_neg (by rw [c_11]; decide)).trans (if_pos c_22) | exact (if_neg (by rw [c_11]; decide)).trans (if_neg c_22) | exact (if_neg (by rw [c_11]; decide)).trans (if_neg (by rw [c_22]; decide)) | exact (if_neg c_22).trans (if_pos c_11) | exact (if_neg c_22).trans (if_neg c_11) | exact (if_neg c_22).trans (if_neg (by rw [c_11]; decide)) | exact (if_neg (by rw [c_22]; decide)).trans (if_pos c_11) | exact (if_neg (by rw [c_22]; decide)).trans (if_neg c_11) | exact (if_neg (by rw [c_22]; decide)).trans (if_neg (by rw [c_11]; decide)))
        exact ⟨by (try rw [e_9]); exact lv_sub hl [1, 2, 3, 0] rfl, trivial⟩
      · refine lv_lload_n hx hb d_T_countThinned_25 rfl (lv_at hl 2 rfl) ?_
        refine lv_lconst (v := 1) hx hb d_T_countThinned_26 rfl ?_
        refine lv_iload hx hb d_T_countThinned_27 (lv_at hl 3 rfl) ?_
        refine lv_lshl (v := zo iv) hx hb d_T_countThinned_29 rfl ?_
        refine lv_lor hx hb d_T_countThinned_30 ?_
        refine lv_lstore_n (lv' := [(2, .long ((fo (mc_thf num fm) iv 0) ||| (zo iv))), (0, .ref (ad 2)), (1, .int fm), (4, .int (nI iv))]) hx hb d_T_countThinned_31 rfl hl (by decide) rfl (fun ls hl => ?_)
        refine lv_iinc (v := nI (iv + 1)) (lv' := [(4, .int (nI (iv + 1))), (2, .long ((fo (mc_thf num fm) iv 0) ||| (zo iv))), (0, .ref (ad 2)), (1, .int fm)]) hx hb d_T_countThinned_32 hl (k := 3) rfl (k_inc _) (by decide) rfl (fun ls hl => ?_)
        refine lv_goto (tgt := 5) hx hb d_T_countThinned_35 (by decide) ?_
        refine ihiv _ (by omega) ?_
        have e_10 : fo (mc_thf num fm) (iv + 1) 0 = (fo (mc_thf num fm) iv 0) ||| (zo iv) := by rw [fo_s]; (first | rfl | exact if_pos c_11 | exact if_neg c_11 | exact if_neg (by rw [c_11]; decide) | exact if_pos c_22 | exact if_neg c_22 | exact if_neg (by rw [c_22]; decide) | exact (if_neg c_11).trans (if_pos c_22) | exact (if_neg c_11).trans (if_neg c_22) | exact (if_neg c_11).trans (if_neg (by rw [c_22]; decide)) | exact (if_neg (by rw [c_11]; decide)).trans (if_pos c_22) | exact (if_neg (by rw [c_11]; decide)).trans (if_neg c_22) | exact (if_neg (by rw [c_11]; decide)).trans (if_neg (by rw [c_22]; decide)) | exact (if_neg c_22).trans (if_pos c_11) | exact (if_neg c_22).trans (if_neg c_11) | exact (if_neg c_22).trans (if_neg (by rw [c_11]; decide)) | exact (if_neg (by rw [c_22]; decide)).trans (if_pos c_11) | exact (if_neg (by rw [c_22]; decide)).trans (if_neg c_11) | exact (if_neg (by rw [c_22]; decide)).trans (if_neg (by rw [c_11]; decide)))
        exact ⟨by (try rw [e_10]); exact lv_sub hl [2, 3, 1, 0] rfl, trivial⟩
  · have hdone : True := trivial
    have e_11 : fo (mc_thf num fm) 0 0 = 0 := rfl
    have e_12 : nI 0 = 0 := rfl
    exact ⟨by (try rw [e_11]); (try rw [e_12]); exact lv_sub hl [2, 3, 1, 0] rfl, trivial⟩
set_option maxHeartbeats 4000000 in
set_option maxRecDepth 100000 in
theorem c_findLonely (l : Launch) (dC : Nat → ClassId) (dI : Nat → Nat → Nat) (ad : Nat → Nat) (ca : Nat → ClassId) (cn : Nat) (hc : cn ≤ 81) (due : Int64) (lon : Int64) (pla : Nat → Int64) (sz : Nat) : Met l y_T_findLonelyPlaces w_T_findLonelyPlaces ({ frames := 0, cells := 0, slots := 0, locals := 0 }) (kw_P [.ref (ad 2)] sz (dC, dI) vC [(ad 2, eT ad (nI cn) due lon), (ad 13, eL 81 (ca 13) pla)] [(ca 13, .long)]) (kw_Qv (dC, dI) vC [(ca 13, .long)] (va_A [(ad 2, eT ad (nI cn) due lon), (ad 13, eL 81 (ca 13) pla)] sz) [(ad 2, eT ad (nI cn) due (mc_lon pla cn)), (ad 13, eL 81 (ca 13) pla)]) 0 0 (va_A [(ad 2, eT ad (nI cn) due lon), (ad 13, eL 81 (ca 13) pla)] sz) := by
  refine Met.ofW (cc := b_T_findLonelyPlaces) (maxL := 6) (ret := none) (by decide) rfl ?_
  intro p e s m args below meth c s₁ B hml hv
  obtain ⟨rfl, hsz, hP, hK, hD0⟩ := hv
  have hx := B.exec
  have hb := B.bytes
  have hr := B.returns
  have hts := atoms_spec (ws := w_T_findLonelyPlaces) B.pre
  have hlocks := B.notSynchronized
  have hown : s.vm.findClass R_T = some m.cls := findClass_of_methodNamed B.named
  subst hsz
  have hD := hD0.self (sz := s.heap.size)
  generalize hAe : va_A [(ad 2, eT ad (nI cn) due lon), (ad 13, eL 81 (ca 13) pla)] s.heap.size = A at hD ⊢
  have hA : ∀ q : Nat, s.heap.size ≤ q → A q := fun q h => by rw [← hAe]; exact Or.inr h
  have hS : va_S A s.heap s.heap [] := va_S.rf
  have hP : va_P (dC, dI) vC [(ad 2, eT ad (nI cn) due lon), (ad 13, eL 81 (ca 13) pla)] s.heap := hP
  have hl := lv_entry ([.ref (ad 2)]) (n := 6) (Nat.le_of_ble_eq_true rfl)
  rw [lg_entry_eq]
  generalize (lg_sl ([.ref (ad 2)]) ++ List.replicate (6 - (lg_sl ([.ref (ad 2)])).length) Slot.unset).toArray = ls at hl ⊢
  have hl : lv_has ls 6 [(0, .ref (ad 2))] := hl
  refine lv_lconst (v := 0) hx hb d_T_findLonelyPlaces_0 rfl ?_
  refine lv_lstore_n (lv' := [(1, .long 0), (0, .ref (ad 2))]) hx hb d_T_findLonelyPlaces_1 rfl hl (by decide) rfl (fun ls hl => ?_)
  refine lv_lconst (v := 0) hx hb d_T_findLonelyPlaces_2 rfl ?_
  refine lv_lstore_n (lv' := [(3, .long 0), (1, .long 0), (0, .ref (ad 2))]) hx hb d_T_findLonelyPlaces_3 rfl hl (by decide) rfl (fun ls hl => ?_)
  refine lv_iconst (v := 0) hx hb d_T_findLonelyPlaces_4 (by decide) ?_
  refine lv_istore (lv' := [(5, .int 0), (3, .long 0), (1, .long 0), (0, .ref (ad 2))]) hx hb d_T_findLonelyPlaces_5 hl (by decide) rfl (fun ls hl => ?_)
  refine k_loopH (fun iv H locs ls => lv_has ls 6 [(0, .ref (ad 2)), (1, .long ((fo (mc_lonf pla) iv (0, 0)).1)), (3, .long ((fo (mc_lonf pla) iv (0, 0)).2)), (5, .int (nI iv))] ∧ va_P (dC, dI) vC [(ad 2, eT ad (nI cn) due lon), (ad 13, eL 81 (ca 13) pla)] H ∧ va_D A [(ad 2, eT ad (nI cn) due lon), (ad 13, eL 81 (ca 13) pla)] ∧ va_S A s.heap H locs ∧ True) cn ?_ 0 _ _ _ (Nat.zero_le _) ?_
  · intro iv H locs ls hiiv hI ihiv
    obtain ⟨hl, hP, hD, hS, -⟩ := hI
    refine lv_iload hx hb d_T_findLonelyPlaces_7 (lv_at hl 3 rfl) ?_
    refine lv_aload_n hx hb d_T_findLonelyPlaces_9 rfl (lv_at hl 0 rfl) ?_
    refine va_get (D := (dC, dI)) (ci := 0) (v := .int (nI cn)) (C := R_T) (T := F_T) (N := 10) hx hb hts (hin_of in_T) hown hK hP 0 rfl rfl 5 (by decide) (hw_of hts mw_110) (fun _ h9 => h9) rfl d_T_findLonelyPlaces_10 ?_
    refine k_ge (a := iv) (b := cn) (tgt := 44) hx hb rfl rfl (by omega) (by omega) d_T_findLonelyPlaces_13 (by decide) (fun c_13 => ?_) (fun c_13 => ?_)
    · obtain rfl : cn = iv := by omega
      refine lv_aload_n hx hb d_T_findLonelyPlaces_44 rfl (lv_at hl 0 rfl) ?_
      refine lv_lload_n hx hb d_T_findLonelyPlaces_45 rfl (lv_at hl 1 rfl) ?_
      refine lv_lload_n hx hb d_T_findLonelyPlaces_46 rfl (lv_at hl 2 rfl) ?_
      refine lv_ldc2 hx hb hown (hw_of hts mw_242) d_T_findLonelyPlaces_47 ?_
      refine lv_lxor hx hb d_T_findLonelyPlaces_50 ?_
      refine lv_land hx hb d_T_findLonelyPlaces_51 ?_
      refine va_put (D := (dC, dI)) (ci := 0) (v := .long (((fo (mc_lonf pla) cn (0, 0)).1) &&& (((fo (mc_lonf pla) cn (0, 0)).2) ^^^ (-1)))) (ty := .long) (C := R_T) (T := F_T) (N := 10) hx hb hts (hin_of in_T) ft_T tk_T nm_T hown hK hP hD hS 0 rfl rfl 7 (by decide) (hw_of hts mw_114) (fun _ h9 => h9) rfl (by decide +kernel) rfl rfl (Nat.le_of_ble_eq_true rfl) d_T_findLonelyPlaces_52 (fun H locs hP hD hS => ?_)
      have hP : va_P (dC, dI) vC [(ad 2, eT ad (nI cn) due (((fo (mc_lonf pla) cn (0, 0)).1) &&& (((fo (mc_lonf pla) cn (0, 0)).2) ^^^ (-1)))), (ad 13, eL 81 (ca 13) pla)] H := hP
      have hD : va_D A [(ad 2, eT ad (nI cn) due (((fo (mc_lonf pla) cn (0, 0)).1) &&& (((fo (mc_lonf pla) cn (0, 0)).2) ^^^ (-1)))), (ad 13, eL 81 (ca 13) pla)] := hD
      have e_1 : mc_lon pla cn = ((fo (mc_lonf pla) cn (0, 0)).1) &&& (((fo (mc_lonf pla) cn (0, 0)).2) ^^^ (-1)) := rfl
      exact W.vret hx hb hr (fun t ht hW => by (try rw [e_1]); exact kw_endv hP hD hK hS [0, 1] rfl (by decide) rfl ht hW.alike) hS.2.2 d_T_findLonelyPlaces_55
    · refine lv_lload_n hx hb d_T_findLonelyPlaces_16 rfl (lv_at hl 2 rfl) ?_
      refine lv_lload_n hx hb d_T_findLonelyPlaces_17 rfl (lv_at hl 1 rfl) ?_
      refine lv_aload_n hx hb d_T_findLonelyPlaces_18 rfl (lv_at hl 0 rfl) ?_
      refine va_get (D := (dC, dI)) (ci := 0) (v := .ref (ad 13)) (C := R_T) (T := F_T) (N := 10) hx hb hts (hin_of in_T) hown hK hP 0 rfl rfl 4 (by decide) (hw_of hts mw_107) (fun _ h9 => h9) rfl d_T_findLonelyPlaces_19 ?_
      refine lv_iload hx hb d_T_findLonelyPlaces_22 (lv_at hl 3 rfl) ?_
      refine k_lald (k := iv) hx hb hK hP 1 0 rfl rfl rfl (by omega) (by decide) d_T_findLonelyPlaces_24 ?_
      refine lv_land hx hb d_T_findLonelyPlaces_25 ?_
      refine lv_lor hx hb d_T_findLonelyPlaces_26 ?_
      refine lv_lstore_n (lv' := [(3, .long (((fo (mc_lonf pla) iv (0, 0)).2) ||| (((fo (mc_lonf pla) iv (0, 0)).1) &&& (pla iv)))), (0, .ref (ad 2)), (1, .long ((fo (mc_lonf pla) iv (0, 0)).1)), (5, .int (nI iv))]) hx hb d_T_findLonelyPlaces_27 rfl hl (by decide) rfl (fun ls hl => ?_)
      refine lv_lload_n hx hb d_T_findLonelyPlaces_28 rfl (lv_at hl 2 rfl) ?_
      refine lv_aload_n hx hb d_T_findLonelyPlaces_29 rfl (lv_at hl 1 rfl) ?_
      refine va_get (D := (dC, dI)) (ci := 0) (v := .ref (ad 13)) (C := R_T) (T := F_T) (N := 10) hx hb hts (hin_of in_T) hown hK hP 0 rfl rfl 4 (by decide) (hw_of hts mw_107) (fun _ h9 => h9) rfl d_T_findLonelyPlaces_30 ?_
      refine lv_iload hx hb d_T_findLonelyPlaces_33 (lv_at hl 3 rfl) ?_
      refine k_lald (k := iv) hx hb hK hP 1 0 rfl rfl rfl (by omega) (by decide) d_T_findLonelyPlaces_35 ?_
      refine lv_lor hx hb d_T_findLonelyPlaces_36 ?_
      refine lv_lstore_n (lv' := [(1, .long (((fo (mc_lonf pla) iv (0, 0)).1) ||| (pla iv))), (3, .long (((fo (mc_lonf pla) iv (0, 0)).2) ||| (((fo (mc_lonf pla) iv (0, 0)).1) &&& (pla iv)))), (0, .ref (ad 2)), (5, .int (nI iv))]) hx hb d_T_findLonelyPlaces_37 rfl hl (by decide) rfl (fun ls hl => ?_)
      refine lv_iinc (v := nI (iv + 1)) (lv' := [(5, .int (nI (iv + 1))), (1, .long (((fo (mc_lonf pla) iv (0, 0)).1) ||| (pla iv))), (3, .long (((fo (mc_lonf pla) iv (0, 0)).2) ||| (((fo (mc_lonf pla) iv (0, 0)).1) &&& (pla iv)))), (0, .ref (ad 2))]) hx hb d_T_findLonelyPlaces_38 hl (k := 3) rfl (k_inc _) (by decide) rfl (fun ls hl => ?_)
      refine lv_goto (tgt := 7) hx hb d_T_findLonelyPlaces_41 (by decide) ?_
      refine ihiv _ _ _ (by omega) ?_
      have e_2 : (fo (mc_lonf pla) (iv + 1) (0, 0)).1 = ((fo (mc_lonf pla) iv (0, 0)).1) ||| (pla iv) := rfl
      have e_3 : (fo (mc_lonf pla) (iv + 1) (0, 0)).2 = ((fo (mc_lonf pla) iv (0, 0)).2) ||| (((fo (mc_lonf pla) iv (0, 0)).1) &&& (pla iv)) := rfl
      exact ⟨by (try rw [e_2]); (try rw [e_3]); exact lv_sub hl [3, 1, 2, 0] rfl, by (try rw [e_2]); (try rw [e_3]); exact hP, by (try rw [e_2]); (try rw [e_3]); exact hD, hS, trivial⟩
  · have hdone : True := trivial
    have e_4 : (fo (mc_lonf pla) 0 (0, 0)).1 = 0 := rfl
    have e_5 : (fo (mc_lonf pla) 0 (0, 0)).2 = 0 := rfl
    have e_6 : nI 0 = 0 := rfl
    exact ⟨by (try rw [e_4]); (try rw [e_5]); (try rw [e_6]); exact lv_sub hl [3, 2, 1, 0] rfl, by (try rw [e_4]); (try rw [e_5]); (try rw [e_6]); exact hP, by (try rw [e_4]); (try rw [e_5]); (try rw [e_6]); exact hD, hS, trivial⟩
