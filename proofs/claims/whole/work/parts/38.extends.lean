set_option maxHeartbeats 4000000 in
set_option maxRecDepth 100000 in
theorem c_extend_s (l : Launch) (dC : Nat → ClassId) (dI : Nat → Nat → Nat) (ad : Nat → Nat) (ca : Nat → ClassId) (pk : Int32) (pp : Int32) (bw : Int32) (bs : Int64) (cn : Nat) (hc : cn ≤ 63) (due : Int64) (lon : Int64) (wei : Nat → Int32) (ser : Nat → Int64) (pla : Nat → Int64) (dp : Nat) (op : Int64) (fr : Int64) (wt : Int32) (tk : Int64) (d : Nat) (hdp : dp + (d + 1) = 32) (ih : ∀ (pk pp bw : Int32) (bs : Int64) (cn : Nat) (hc : cn ≤ 63) (due lon : Int64) (wei : Nat → Int32) (ser pla : Nat → Int64) (dp : Nat) (op fr : Int64) (wt : Int32) (tk : Int64) (sz : Nat), dp + d = 32 → Met l y_S_extend w_S_extend (rmE d) (kw_P [.ref (ad 1), .int (nI dp), .long op, .long fr, .int wt, .long tk] sz (dC, dI) vC [(ad 1, eS ad pk pp bw bs), (ad 2, eT ad (nI cn) due lon), (ad 7, eI 81 (ca 7) wei), (ad 8, eL 32 (ca 8) ser), (ad 13, eL 81 (ca 13) pla)] [(ca 7, .int), (ca 8, .long), (ca 13, .long)]) (kw_Qv (dC, dI) vC [(ca 7, .int), (ca 8, .long), (ca 13, .long)] (va_A [(ad 1, eS ad pk pp bw bs), (ad 2, eT ad (nI cn) due lon), (ad 7, eI 81 (ca 7) wei), (ad 8, eL 32 (ca 8) ser), (ad 13, eL 81 (ca 13) pla)] sz) [(ad 1, eS ad pk pp ((m_ext m_pop cn pla wei ser d op fr wt tk (bw, bs)).1) ((m_ext m_pop cn pla wei ser d op fr wt tk (bw, bs)).2)), (ad 2, eT ad (nI cn) due lon), (ad 7, eI 81 (ca 7) wei), (ad 8, eL 32 (ca 8) ser), (ad 13, eL 81 (ca 13) pla)]) 0 0 (va_A [(ad 1, eS ad pk pp bw bs), (ad 2, eT ad (nI cn) due lon), (ad 7, eI 81 (ca 7) wei), (ad 8, eL 32 (ca 8) ser), (ad 13, eL 81 (ca 13) pla)] sz)) (sz : Nat) : Met l y_S_extend w_S_extend (rmE (d + 1)) (kw_P [.ref (ad 1), .int (nI dp), .long op, .long fr, .int wt, .long tk] sz (dC, dI) vC [(ad 1, eS ad pk pp bw bs), (ad 2, eT ad (nI cn) due lon), (ad 7, eI 81 (ca 7) wei), (ad 8, eL 32 (ca 8) ser), (ad 13, eL 81 (ca 13) pla)] [(ca 7, .int), (ca 8, .long), (ca 13, .long)]) (kw_Qv (dC, dI) vC [(ca 7, .int), (ca 8, .long), (ca 13, .long)] (va_A [(ad 1, eS ad pk pp bw bs), (ad 2, eT ad (nI cn) due lon), (ad 7, eI 81 (ca 7) wei), (ad 8, eL 32 (ca 8) ser), (ad 13, eL 81 (ca 13) pla)] sz) [(ad 1, eS ad pk pp ((m_ext m_pop cn pla wei ser (d + 1) op fr wt tk (bw, bs)).1) ((m_ext m_pop cn pla wei ser (d + 1) op fr wt tk (bw, bs)).2)), (ad 2, eT ad (nI cn) due lon), (ad 7, eI 81 (ca 7) wei), (ad 8, eL 32 (ca 8) ser), (ad 13, eL 81 (ca 13) pla)]) 0 0 (va_A [(ad 1, eS ad pk pp bw bs), (ad 2, eT ad (nI cn) due lon), (ad 7, eI 81 (ca 7) wei), (ad 8, eL 32 (ca 8) ser), (ad 13, eL 81 (ca 13) pla)] sz) := by
  refine Met.ofW (cc := b_S_extend) (maxL := 16) (ret := none) (by decide) rfl ?_
  intro p e s m args below meth c s₁ B hml hv
  obtain ⟨rfl, hsz, hP, hK, hD0⟩ := hv
  have hx := B.exec
  have hb := B.bytes
  have hr := B.returns
  have hts := atoms_spec (ws := w_S_extend) B.pre
  have hlocks := B.notSynchronized
  have hown : s.vm.findClass R_S = some m.cls := findClass_of_methodNamed B.named
  subst hsz
  have hD := hD0.self (sz := s.heap.size)
  generalize hAe : va_A [(ad 1, eS ad pk pp bw bs), (ad 2, eT ad (nI cn) due lon), (ad 7, eI 81 (ca 7) wei), (ad 8, eL 32 (ca 8) ser), (ad 13, eL 81 (ca 13) pla)] s.heap.size = A at hD ⊢
  have hA : ∀ q : Nat, s.heap.size ≤ q → A q := fun q h => by rw [← hAe]; exact Or.inr h
  have hS : va_S A s.heap s.heap [] := va_S.rf
  have hP : va_P (dC, dI) vC [(ad 1, eS ad pk pp bw bs), (ad 2, eT ad (nI cn) due lon), (ad 7, eI 81 (ca 7) wei), (ad 8, eL 32 (ca 8) ser), (ad 13, eL 81 (ca 13) pla)] s.heap := hP
  have hl := lv_entry ([.ref (ad 1), .int (nI dp), .long op, .long fr, .int wt, .long tk]) (n := 16) (Nat.le_of_ble_eq_true rfl)
  rw [lg_entry_eq]
  generalize (lg_sl ([.ref (ad 1), .int (nI dp), .long op, .long fr, .int wt, .long tk]) ++ List.replicate (16 - (lg_sl ([.ref (ad 1), .int (nI dp), .long op, .long fr, .int wt, .long tk])).length) Slot.unset).toArray = ls at hl ⊢
  have hl : lv_has ls 16 [(0, .ref (ad 1)), (1, .int (nI dp)), (2, .long op), (4, .long fr), (6, .int wt), (7, .long tk)] := hl
  refine lv_lload_n hx hb d_S_extend_0 rfl (lv_at hl 2 rfl) ?_
  refine lv_lconst (v := 0) hx hb d_S_extend_1 rfl ?_
  refine k_lne (tgt := 15) hx hb d_S_extend_2 d_S_extend_3 (by decide) (fun c_2 => ?_) (fun c_2 => ?_)
  · refine lv_iload_n hx hb d_S_extend_15 rfl (lv_at hl 1 rfl) ?_
    refine lv_bipush (v := 32) hx hb d_S_extend_16 (by decide) ?_
    refine k_lt (a := dp) (b := 32) (tgt := 22) hx hb rfl rfl (by omega) (by omega) d_S_extend_18 (by decide) (fun c_18 => ?_) (fun c_18 => ?_)
    · refine lv_aload_n hx hb d_S_extend_22 rfl (lv_at hl 0 rfl) ?_
      refine lv_lload_n hx hb d_S_extend_23 rfl (lv_at hl 2 rfl) ?_
      refine lv_lload hx hb d_S_extend_24 (lv_at hl 3 rfl) ?_
      have hPc := hP.sub (ws' := [(ad 1, eS ad pk pp bw bs), (ad 2, eT ad (nI cn) due lon), (ad 7, eI 81 (ca 7) wei), (ad 13, eL 81 (ca 13) pla)]) [0, 1, 2, 4] rfl
      have hKc := hK.sub (tys' := [(ca 7, .int), (ca 13, .long)]) [0, 2] rfl
      refine vp_callSl (W.runV (As := [.long op, .long fr]) (rest := []) ⟨hx, hb, hml, hown, hts⟩ (c_withoutDominated l dC dI ad ca pk pp bw bs cn hc due lon wei pla op fr) (cwV 2 hts (gd_V mw_272 mw_274 mw_13 mw_41 mw_275) rfl rfl rfl (by decide +kernel) ⟨Nat.le_of_ble_eq_true rfl, Nat.le_of_ble_eq_true rfl⟩) (kr_V (q0 := 0) (ci := 2) hKc hPc rfl rfl) rfl rfl hl.1 rfl (lv_room (Nat.le_of_ble_eq_true rfl)) d_S_extend_26 ⟨Nat.zero_le _, Nat.zero_le _⟩) (fun r hq => ?_)
      subst hq
      refine lv_lstore (lv' := [(9, .long (m_wd cn pla wei op fr)), (0, .ref (ad 1)), (1, .int (nI dp)), (2, .long op), (4, .long fr), (6, .int wt), (7, .long tk)]) hx hb d_S_extend_29 hl (by decide) rfl (fun ls hl => ?_)
      refine lv_aload_n hx hb d_S_extend_31 rfl (lv_at hl 1 rfl) ?_
      refine lv_iload hx hb d_S_extend_32 (lv_at hl 5 rfl) ?_
      refine lv_aload_n hx hb d_S_extend_34 rfl (lv_at hl 1 rfl) ?_
      refine lv_lload_n hx hb d_S_extend_35 rfl (lv_at hl 3 rfl) ?_
      refine lv_lload hx hb d_S_extend_36 (lv_at hl 0 rfl) ?_
      have hPc := hP.sub (ws' := [(ad 1, eS ad pk pp bw bs), (ad 2, eT ad (nI cn) due lon), (ad 7, eI 81 (ca 7) wei), (ad 8, eL 32 (ca 8) ser)]) [0, 1, 2, 3] rfl
      have hKc := hK.sub (tys' := [(ca 7, .int), (ca 8, .long)]) [0, 1] rfl
      refine vp_callSi (W.runV (As := [.long op, .long (m_wd cn pla wei op fr)]) (rest := [.int wt, .ref (ad 1)]) ⟨hx, hb, hml, hown, hts⟩ (c_weightToCome l dC dI ad ca pk pp bw bs cn hc due lon wei ser op (m_wd cn pla wei op fr)) (cwV 2 hts (gd_V mw_281 mw_283 mw_15 mw_41 mw_284) rfl rfl rfl (by decide +kernel) ⟨Nat.le_of_ble_eq_true rfl, Nat.le_of_ble_eq_true rfl⟩) (kr_V (q0 := 0) (ci := 2) hKc hPc rfl rfl) rfl rfl hl.1 rfl (lv_room (Nat.le_of_ble_eq_true rfl)) d_S_extend_38 ⟨Nat.zero_le _, Nat.zero_le _⟩) (fun r hq => ?_)
      subst hq
      refine lv_iadd hx hb d_S_extend_41 ?_
      refine lv_lload hx hb d_S_extend_42 (lv_at hl 6 rfl) ?_
      refine lv_lload hx hb d_S_extend_44 (lv_at hl 0 rfl) ?_
      refine lv_lor hx hb d_S_extend_46 ?_
      have hPc := hP.sub (ws' := [(ad 1, eS ad pk pp bw bs)]) [0] rfl
      have hKc := hK.sub (tys' := []) [] rfl
      refine vp_callSi (W.runV (As := [.int (wt + ((m_wtc cn wei ser op (m_wd cn pla wei op fr)).2)), .long (tk ||| (m_wd cn pla wei op fr))]) (rest := []) ⟨hx, hb, hml, hown, hts⟩ (c_isBetter l dC dI ad ca pk pp bw bs (wt + ((m_wtc cn wei ser op (m_wd cn pla wei op fr)).2)) (tk ||| (m_wd cn pla wei op fr))) (cwV 2 hts (gd_V mw_268 mw_270 mw_12 mw_41 mw_271) rfl rfl rfl (by decide +kernel) ⟨Nat.le_of_ble_eq_true rfl, Nat.le_of_ble_eq_true rfl⟩) (kr_V (q0 := 0) (ci := 2) hKc hPc rfl rfl) rfl rfl hl.1 rfl (lv_room (Nat.le_of_ble_eq_true rfl)) d_S_extend_47 ⟨Nat.zero_le _, Nat.zero_le _⟩) (fun r hq => ?_)
      subst hq
      refine k_bne (b := (m_bet (wt + ((m_wtc cn wei ser op (m_wd cn pla wei op fr)).2)) (tk ||| (m_wd cn pla wei op fr)) bw bs)) (tgt := 54) hx hb d_S_extend_50 (by decide) (fun c_50 => ?_) (fun c_50 => ?_)
      · refine lv_aload_n hx hb d_S_extend_54 rfl (lv_at hl 1 rfl) ?_
        refine lv_lload_n hx hb d_S_extend_55 rfl (lv_at hl 3 rfl) ?_
        refine lv_lload hx hb d_S_extend_56 (lv_at hl 0 rfl) ?_
        have hPc := hP.sub (ws' := [(ad 1, eS ad pk pp bw bs), (ad 8, eL 32 (ca 8) ser)]) [0, 3] rfl
        have hKc := hK.sub (tys' := [(ca 8, .long)]) [1] rfl
        refine vp_callSl (W.runV (As := [.long op, .long (m_wd cn pla wei op fr)]) (rest := []) ⟨hx, hb, hml, hown, hts⟩ (c_fewestServers l dC dI ad ca pk pp bw bs ser op (m_wd cn pla wei op fr)) (cwV 2 hts (gd_V mw_292 mw_294 mw_17 mw_41 mw_295) rfl rfl rfl (by decide +kernel) ⟨Nat.le_of_ble_eq_true rfl, Nat.le_of_ble_eq_true rfl⟩) (kr_V (q0 := 0) (ci := 2) hKc hPc rfl rfl) rfl rfl hl.1 rfl (lv_room (Nat.le_of_ble_eq_true rfl)) d_S_extend_58 ⟨Nat.zero_le _, Nat.zero_le _⟩) (fun r hq => ?_)
        subst hq
        refine lv_lstore (lv' := [(11, .long (m_few m_pop ser op (m_wd cn pla wei op fr))), (9, .long (m_wd cn pla wei op fr)), (0, .ref (ad 1)), (1, .int (nI dp)), (2, .long op), (4, .long fr), (6, .int wt), (7, .long tk)]) hx hb d_S_extend_61 hl (by decide) rfl (fun ls hl => ?_)
        refine lv_iconst (v := 0) hx hb d_S_extend_63 (by decide) ?_
        refine lv_istore (lv' := [(13, .int 0), (11, .long (m_few m_pop ser op (m_wd cn pla wei op fr))), (9, .long (m_wd cn pla wei op fr)), (0, .ref (ad 1)), (1, .int (nI dp)), (2, .long op), (4, .long fr), (6, .int wt), (7, .long tk)]) hx hb d_S_extend_64 hl (by decide) rfl (fun ls hl => ?_)
        refine k_loopH (fun iv H locs ls => lv_has ls 16 [(0, .ref (ad 1)), (1, .int (nI dp)), (2, .long op), (4, .long fr), (6, .int wt), (7, .long tk), (9, .long ((fo (m_loopf pla wei (m_few m_pop ser op (m_wd cn pla wei op fr)) op wt tk (m_ext m_pop cn pla wei ser d)) iv (m_wd cn pla wei op fr, (bw, bs))).1)), (11, .long (m_few m_pop ser op (m_wd cn pla wei op fr))), (13, .int (nI iv))] ∧ va_P (dC, dI) vC [(ad 1, eS ad pk pp ((fo (m_loopf pla wei (m_few m_pop ser op (m_wd cn pla wei op fr)) op wt tk (m_ext m_pop cn pla wei ser d)) iv (m_wd cn pla wei op fr, (bw, bs))).2.1) ((fo (m_loopf pla wei (m_few m_pop ser op (m_wd cn pla wei op fr)) op wt tk (m_ext m_pop cn pla wei ser d)) iv (m_wd cn pla wei op fr, (bw, bs))).2.2)), (ad 2, eT ad (nI cn) due lon), (ad 7, eI 81 (ca 7) wei), (ad 8, eL 32 (ca 8) ser), (ad 13, eL 81 (ca 13) pla)] H ∧ va_D A [(ad 1, eS ad pk pp ((fo (m_loopf pla wei (m_few m_pop ser op (m_wd cn pla wei op fr)) op wt tk (m_ext m_pop cn pla wei ser d)) iv (m_wd cn pla wei op fr, (bw, bs))).2.1) ((fo (m_loopf pla wei (m_few m_pop ser op (m_wd cn pla wei op fr)) op wt tk (m_ext m_pop cn pla wei ser d)) iv (m_wd cn pla wei op fr, (bw, bs))).2.2)), (ad 2, eT ad (nI cn) due lon), (ad 7, eI 81 (ca 7) wei), (ad 8, eL 32 (ca 8) ser), (ad 13, eL 81 (ca 13) pla)] ∧ va_S A s.heap H locs ∧ True) cn ?_ 0 _ _ _ (Nat.zero_le _) ?_
        · intro iv H locs ls hiiv hI ihiv
          obtain ⟨hl, hP, hD, hS, -⟩ := hI
          refine lv_iload hx hb d_S_extend_66 (lv_at hl 8 rfl) ?_
          refine lv_aload_n hx hb d_S_extend_68 rfl (lv_at hl 0 rfl) ?_
          refine va_get (D := (dC, dI)) (ci := 2) (v := .ref (ad 2)) (C := R_S) (T := F_S) (N := 8) hx hb hts (hin_of in_S) hown hK hP 0 rfl rfl 3 (by decide) (hw_of hts mw_144) (fun _ h9 => h9) rfl d_S_extend_69 ?_
          refine va_get (D := (dC, dI)) (ci := 0) (v := .int (nI cn)) (C := R_T) (T := F_T) (N := 10) hx hb hts (hin_of in_T) hown hK hP 1 rfl rfl 5 (by decide) (hw_of hts mw_109) (fun _ h9 => h9) rfl d_S_extend_72 ?_
          refine k_ge (a := iv) (b := cn) (tgt := 151) hx hb rfl rfl (by omega) (by omega) d_S_extend_75 (by decide) (fun c_75 => ?_) (fun c_75 => ?_)
          · obtain rfl : cn = iv := by omega
            have e_1 : (m_ext m_pop cn pla wei ser (d + 1) op fr wt tk (bw, bs)).1 = (fo (m_loopf pla wei (m_few m_pop ser op (m_wd cn pla wei op fr)) op wt tk (m_ext m_pop cn pla wei ser d)) cn (m_wd cn pla wei op fr, (bw, bs))).2.1 := by simp [m_ext, c_2, c_18, c_50, c_75]
            have e_2 : (m_ext m_pop cn pla wei ser (d + 1) op fr wt tk (bw, bs)).2 = (fo (m_loopf pla wei (m_few m_pop ser op (m_wd cn pla wei op fr)) op wt tk (m_ext m_pop cn pla wei ser d)) cn (m_wd cn pla wei op fr, (bw, bs))).2.2 := by simp [m_ext, c_2, c_18, c_50, c_75]
            exact W.vret hx hb hr (fun t ht hW => by (try rw [e_1]); (try rw [e_2]); exact kw_endv hP hD hK hS [0, 1, 2, 3, 4] rfl (by decide) rfl ht hW.alike) hS.2.2 d_S_extend_151
          · refine lv_lconst (v := 1) hx hb d_S_extend_78 rfl ?_
            refine lv_iload hx hb d_S_extend_79 (lv_at hl 8 rfl) ?_
            refine lv_lshl (v := zo iv) hx hb d_S_extend_81 rfl ?_
            refine lv_lstore (lv' := [(14, .long (zo iv)), (0, .ref (ad 1)), (1, .int (nI dp)), (2, .long op), (4, .long fr), (6, .int wt), (7, .long tk), (9, .long ((fo (m_loopf pla wei (m_few m_pop ser op (m_wd cn pla wei op fr)) op wt tk (m_ext m_pop cn pla wei ser d)) iv (m_wd cn pla wei op fr, (bw, bs))).1)), (11, .long (m_few m_pop ser op (m_wd cn pla wei op fr))), (13, .int (nI iv))]) hx hb d_S_extend_82 hl (by decide) rfl (fun ls hl => ?_)
            refine lv_lload hx hb d_S_extend_84 (lv_at hl 8 rfl) ?_
            refine lv_lload hx hb d_S_extend_86 (lv_at hl 0 rfl) ?_
            refine lv_land hx hb d_S_extend_88 ?_
            refine lv_lconst (v := 0) hx hb d_S_extend_89 rfl ?_
            refine k_leq (tgt := 145) hx hb d_S_extend_90 d_S_extend_91 (by decide) (fun c_90 => ?_) (fun c_90 => ?_)
            · have b_90 := (zb_tz _ (by omega)).mp c_90
              refine lv_iinc (v := nI (iv + 1)) (lv' := [(13, .int (nI (iv + 1))), (14, .long (zo iv)), (0, .ref (ad 1)), (1, .int (nI dp)), (2, .long op), (4, .long fr), (6, .int wt), (7, .long tk), (9, .long ((fo (m_loopf pla wei (m_few m_pop ser op (m_wd cn pla wei op fr)) op wt tk (m_ext m_pop cn pla wei ser d)) iv (m_wd cn pla wei op fr, (bw, bs))).1)), (11, .long (m_few m_pop ser op (m_wd cn pla wei op fr)))]) hx hb d_S_extend_145 hl (k := 9) rfl (k_inc _) (by decide) rfl (fun ls hl => ?_)
              refine lv_goto (tgt := 66) hx hb d_S_extend_148 (by decide) ?_
              refine ihiv _ _ _ (by omega) ?_
              have e_3 : (fo (m_loopf pla wei (m_few m_pop ser op (m_wd cn pla wei op fr)) op wt tk (m_ext m_pop cn pla wei ser d)) (iv + 1) (m_wd cn pla wei op fr, (bw, bs))).1 = (fo (m_loopf pla wei (m_few m_pop ser op (m_wd cn pla wei op fr)) op wt tk (m_ext m_pop cn pla wei ser d)) iv (m_wd cn pla wei op fr, (bw, bs))).1 := by simp [fo_s, m_loopf, c_2, c_18, c_50, c_75, c_90, b_90]
              have e_4 : (fo (m_loopf pla wei (m_few m_pop ser op (m_wd cn pla wei op fr)) op wt tk (m_ext m_pop cn pla wei ser d)) (iv + 1) (m_wd cn pla wei op fr, (bw, bs))).2.1 = (fo (m_loopf pla wei (m_few m_pop ser op (m_wd cn pla wei op fr)) op wt tk (m_ext m_pop cn pla wei ser d)) iv (m_wd cn pla wei op fr, (bw, bs))).2.1 := by simp [fo_s, m_loopf, c_2, c_18, c_50, c_75, c_90, b_90]
              have e_5 : (fo (m_loopf pla wei (m_few m_pop ser op (m_wd cn pla wei op fr)) op wt tk (m_ext m_pop cn pla wei ser d)) (iv + 1) (m_wd cn pla wei op fr, (bw, bs))).2.2 = (fo (m_loopf pla wei (m_few m_pop ser op (m_wd cn pla wei op fr)) op wt tk (m_ext m_pop cn pla wei ser d)) iv (m_wd cn pla wei op fr, (bw, bs))).2.2 := by simp [fo_s, m_loopf, c_2, c_18, c_50, c_75, c_90, b_90]
              exact ⟨by (try rw [e_3]); (try rw [e_4]); (try rw [e_5]); exact lv_sub hl [2, 3, 4, 5, 6, 7, 8, 9, 0] rfl, by (try rw [e_3]); (try rw [e_4]); (try rw [e_5]); exact hP, by (try rw [e_3]); (try rw [e_4]); (try rw [e_5]); exact hD, hS, trivial⟩
            · have b_90 := (zb_tzn _ (by omega)).mp c_90
              refine lv_lload hx hb d_S_extend_94 (lv_at hl 7 rfl) ?_
              refine lv_lload hx hb d_S_extend_96 (lv_at hl 0 rfl) ?_
              refine lv_ldc2 hx hb hown (hw_of hts mw_280) d_S_extend_98 ?_
              refine lv_lxor hx hb d_S_extend_101 ?_
              refine lv_land hx hb d_S_extend_102 ?_
              refine lv_lstore (lv' := [(9, .long (((fo (m_loopf pla wei (m_few m_pop ser op (m_wd cn pla wei op fr)) op wt tk (m_ext m_pop cn pla wei ser d)) iv (m_wd cn pla wei op fr, (bw, bs))).1) &&& ((zo iv) ^^^ (-1)))), (14, .long (zo iv)), (0, .ref (ad 1)), (1, .int (nI dp)), (2, .long op), (4, .long fr), (6, .int wt), (7, .long tk), (11, .long (m_few m_pop ser op (m_wd cn pla wei op fr))), (13, .int (nI iv))]) hx hb d_S_extend_103 hl (by decide) rfl (fun ls hl => ?_)
              refine lv_aload_n hx hb d_S_extend_105 rfl (lv_at hl 2 rfl) ?_
              refine lv_iload_n hx hb d_S_extend_106 rfl (lv_at hl 3 rfl) ?_
              refine lv_iconst (v := 1) hx hb d_S_extend_107 (by decide) ?_
              refine k_iadd (a := dp) (b := 1) hx hb rfl rfl d_S_extend_108 ?_
              refine lv_lload_n hx hb d_S_extend_109 rfl (lv_at hl 4 rfl) ?_
              refine lv_aload_n hx hb d_S_extend_110 rfl (lv_at hl 2 rfl) ?_
              refine va_get (D := (dC, dI)) (ci := 2) (v := .ref (ad 2)) (C := R_S) (T := F_S) (N := 8) hx hb hts (hin_of in_S) hown hK hP 0 rfl rfl 3 (by decide) (hw_of hts mw_144) (fun _ h9 => h9) rfl d_S_extend_111 ?_
              refine va_get (D := (dC, dI)) (ci := 0) (v := .ref (ad 13)) (C := R_T) (T := F_T) (N := 10) hx hb hts (hin_of in_T) hown hK hP 1 rfl rfl 4 (by decide) (hw_of hts mw_108) (fun _ h9 => h9) rfl d_S_extend_114 ?_
              refine lv_iload hx hb d_S_extend_117 (lv_at hl 9 rfl) ?_
              refine k_lald (k := iv) hx hb hK hP 4 2 rfl rfl rfl (by omega) (by decide) d_S_extend_119 ?_
              refine lv_ldc2 hx hb hown (hw_of hts mw_280) d_S_extend_120 ?_
              refine lv_lxor hx hb d_S_extend_123 ?_
              refine lv_land hx hb d_S_extend_124 ?_
              refine lv_lload hx hb d_S_extend_125 (lv_at hl 0 rfl) ?_
              refine lv_iload hx hb d_S_extend_127 (lv_at hl 6 rfl) ?_
              refine lv_aload_n hx hb d_S_extend_129 rfl (lv_at hl 2 rfl) ?_
              refine va_get (D := (dC, dI)) (ci := 2) (v := .ref (ad 7)) (C := R_S) (T := F_S) (N := 8) hx hb hts (hin_of in_S) hown hK hP 0 rfl rfl 4 (by decide) (hw_of hts mw_146) (fun _ h9 => h9) rfl d_S_extend_130 ?_
              refine lv_iload hx hb d_S_extend_133 (lv_at hl 9 rfl) ?_
              refine k_iald (k := iv) hx hb hK hP 2 0 rfl rfl rfl (by omega) (by decide) d_S_extend_135 ?_
              refine lv_iadd hx hb d_S_extend_136 ?_
              refine lv_lload hx hb d_S_extend_137 (lv_at hl 7 rfl) ?_
              refine lv_lload hx hb d_S_extend_139 (lv_at hl 1 rfl) ?_
              refine lv_lor hx hb d_S_extend_141 ?_
              have hPc := hP.sub (ws' := [(ad 1, eS ad pk pp ((fo (m_loopf pla wei (m_few m_pop ser op (m_wd cn pla wei op fr)) op wt tk (m_ext m_pop cn pla wei ser d)) iv (m_wd cn pla wei op fr, (bw, bs))).2.1) ((fo (m_loopf pla wei (m_few m_pop ser op (m_wd cn pla wei op fr)) op wt tk (m_ext m_pop cn pla wei ser d)) iv (m_wd cn pla wei op fr, (bw, bs))).2.2)), (ad 2, eT ad (nI cn) due lon), (ad 7, eI 81 (ca 7) wei), (ad 8, eL 32 (ca 8) ser), (ad 13, eL 81 (ca 13) pla)]) [0, 1, 2, 3, 4] rfl
              have hDc := hD.sub (ws' := [(ad 1, eS ad pk pp ((fo (m_loopf pla wei (m_few m_pop ser op (m_wd cn pla wei op fr)) op wt tk (m_ext m_pop cn pla wei ser d)) iv (m_wd cn pla wei op fr, (bw, bs))).2.1) ((fo (m_loopf pla wei (m_few m_pop ser op (m_wd cn pla wei op fr)) op wt tk (m_ext m_pop cn pla wei ser d)) iv (m_wd cn pla wei op fr, (bw, bs))).2.2)), (ad 2, eT ad (nI cn) due lon), (ad 7, eI 81 (ca 7) wei), (ad 8, eL 32 (ca 8) ser), (ad 13, eL 81 (ca 13) pla)]) [0, 1, 2, 3, 4] (by decide) rfl
              have hKc := hK.sub (tys' := [(ca 7, .int), (ca 8, .long), (ca 13, .long)]) [0, 1, 2] rfl
              refine kw_callv (wr := []) (wf := [(ad 1, eS ad pk pp ((m_ext m_pop cn pla wei ser d (op &&& ((pla iv) ^^^ (-1))) (((fo (m_loopf pla wei (m_few m_pop ser op (m_wd cn pla wei op fr)) op wt tk (m_ext m_pop cn pla wei ser d)) iv (m_wd cn pla wei op fr, (bw, bs))).1) &&& ((zo iv) ^^^ (-1))) (wt + (wei iv)) (tk ||| (zo iv)) (((fo (m_loopf pla wei (m_few m_pop ser op (m_wd cn pla wei op fr)) op wt tk (m_ext m_pop cn pla wei ser d)) iv (m_wd cn pla wei op fr, (bw, bs))).2.1), ((fo (m_loopf pla wei (m_few m_pop ser op (m_wd cn pla wei op fr)) op wt tk (m_ext m_pop cn pla wei ser d)) iv (m_wd cn pla wei op fr, (bw, bs))).2.2))).1) ((m_ext m_pop cn pla wei ser d (op &&& ((pla iv) ^^^ (-1))) (((fo (m_loopf pla wei (m_few m_pop ser op (m_wd cn pla wei op fr)) op wt tk (m_ext m_pop cn pla wei ser d)) iv (m_wd cn pla wei op fr, (bw, bs))).1) &&& ((zo iv) ^^^ (-1))) (wt + (wei iv)) (tk ||| (zo iv)) (((fo (m_loopf pla wei (m_few m_pop ser op (m_wd cn pla wei op fr)) op wt tk (m_ext m_pop cn pla wei ser d)) iv (m_wd cn pla wei op fr, (bw, bs))).2.1), ((fo (m_loopf pla wei (m_few m_pop ser op (m_wd cn pla wei op fr)) op wt tk (m_ext m_pop cn pla wei ser d)) iv (m_wd cn pla wei op fr, (bw, bs))).2.2))).2)), (ad 2, eT ad (nI cn) due lon), (ad 7, eI 81 (ca 7) wei), (ad 8, eL 32 (ca 8) ser), (ad 13, eL 81 (ca 13) pla)]) (va_runV (As := [.int (nI (dp + 1)), .long (op &&& ((pla iv) ^^^ (-1))), .long (((fo (m_loopf pla wei (m_few m_pop ser op (m_wd cn pla wei op fr)) op wt tk (m_ext m_pop cn pla wei ser d)) iv (m_wd cn pla wei op fr, (bw, bs))).1) &&& ((zo iv) ^^^ (-1))), .int (wt + (wei iv)), .long (tk ||| (zo iv))]) (rest := []) ⟨hx, hb, hml, hown, hts⟩ (ih pk pp ((fo (m_loopf pla wei (m_few m_pop ser op (m_wd cn pla wei op fr)) op wt tk (m_ext m_pop cn pla wei ser d)) iv (m_wd cn pla wei op fr, (bw, bs))).2.1) ((fo (m_loopf pla wei (m_few m_pop ser op (m_wd cn pla wei op fr)) op wt tk (m_ext m_pop cn pla wei ser d)) iv (m_wd cn pla wei op fr, (bw, bs))).2.2) cn hc due lon wei ser pla (dp + 1) (op &&& ((pla iv) ^^^ (-1))) (((fo (m_loopf pla wei (m_few m_pop ser op (m_wd cn pla wei op fr)) op wt tk (m_ext m_pop cn pla wei ser d)) iv (m_wd cn pla wei op fr, (bw, bs))).1) &&& ((zo iv) ^^^ (-1))) (wt + (wei iv)) (tk ||| (zo iv)) _ (by omega)) (cwV 5 hts (gd_V mw_260 mw_262 mw_10 mw_41 mw_263) rfl rfl rfl (by decide +kernel) ⟨by show d + 3 + 1 ≤ d + 1 + 3; omega, by show 8 + (16 + 11) + (35 * d + 120) ≤ 35 * (d + 1) + 120; omega⟩) (kw_V (q0 := 0) (ci := 2) hKc hPc hDc rfl rfl) rfl rfl hl.1 rfl (lv_room (Nat.le_of_ble_eq_true rfl)) d_S_extend_142 ⟨Nat.zero_le _, Nat.zero_le _⟩) hP hD hS hA [0, 1, 2, 3, 4] [] rfl rfl (by decide) (by decide) (fun H locs hP hD hS => ?_)
              have hP : va_P (dC, dI) vC [(ad 1, eS ad pk pp ((m_ext m_pop cn pla wei ser d (op &&& ((pla iv) ^^^ (-1))) (((fo (m_loopf pla wei (m_few m_pop ser op (m_wd cn pla wei op fr)) op wt tk (m_ext m_pop cn pla wei ser d)) iv (m_wd cn pla wei op fr, (bw, bs))).1) &&& ((zo iv) ^^^ (-1))) (wt + (wei iv)) (tk ||| (zo iv)) (((fo (m_loopf pla wei (m_few m_pop ser op (m_wd cn pla wei op fr)) op wt tk (m_ext m_pop cn pla wei ser d)) iv (m_wd cn pla wei op fr, (bw, bs))).2.1), ((fo (m_loopf pla wei (m_few m_pop ser op (m_wd cn pla wei op fr)) op wt tk (m_ext m_pop cn pla wei ser d)) iv (m_wd cn pla wei op fr, (bw, bs))).2.2))).1) ((m_ext m_pop cn pla wei ser d (op &&& ((pla iv) ^^^ (-1))) (((fo (m_loopf pla wei (m_few m_pop ser op (m_wd cn pla wei op fr)) op wt tk (m_ext m_pop cn pla wei ser d)) iv (m_wd cn pla wei op fr, (bw, bs))).1) &&& ((zo iv) ^^^ (-1))) (wt + (wei iv)) (tk ||| (zo iv)) (((fo (m_loopf pla wei (m_few m_pop ser op (m_wd cn pla wei op fr)) op wt tk (m_ext m_pop cn pla wei ser d)) iv (m_wd cn pla wei op fr, (bw, bs))).2.1), ((fo (m_loopf pla wei (m_few m_pop ser op (m_wd cn pla wei op fr)) op wt tk (m_ext m_pop cn pla wei ser d)) iv (m_wd cn pla wei op fr, (bw, bs))).2.2))).2)), (ad 2, eT ad (nI cn) due lon), (ad 7, eI 81 (ca 7) wei), (ad 8, eL 32 (ca 8) ser), (ad 13, eL 81 (ca 13) pla)] H := hP
              have hD : va_D A [(ad 1, eS ad pk pp ((m_ext m_pop cn pla wei ser d (op &&& ((pla iv) ^^^ (-1))) (((fo (m_loopf pla wei (m_few m_pop ser op (m_wd cn pla wei op fr)) op wt tk (m_ext m_pop cn pla wei ser d)) iv (m_wd cn pla wei op fr, (bw, bs))).1) &&& ((zo iv) ^^^ (-1))) (wt + (wei iv)) (tk ||| (zo iv)) (((fo (m_loopf pla wei (m_few m_pop ser op (m_wd cn pla wei op fr)) op wt tk (m_ext m_pop cn pla wei ser d)) iv (m_wd cn pla wei op fr, (bw, bs))).2.1), ((fo (m_loopf pla wei (m_few m_pop ser op (m_wd cn pla wei op fr)) op wt tk (m_ext m_pop cn pla wei ser d)) iv (m_wd cn pla wei op fr, (bw, bs))).2.2))).1) ((m_ext m_pop cn pla wei ser d (op &&& ((pla iv) ^^^ (-1))) (((fo (m_loopf pla wei (m_few m_pop ser op (m_wd cn pla wei op fr)) op wt tk (m_ext m_pop cn pla wei ser d)) iv (m_wd cn pla wei op fr, (bw, bs))).1) &&& ((zo iv) ^^^ (-1))) (wt + (wei iv)) (tk ||| (zo iv)) (((fo (m_loopf pla wei (m_few m_pop ser op (m_wd cn pla wei op fr)) op wt tk (m_ext m_pop cn pla wei ser d)) iv (m_wd cn pla wei op fr, (bw, bs))).2.1), ((fo (m_loopf pla wei (m_few m_pop ser op (m_wd cn pla wei op fr)) op wt tk (m_ext m_pop cn pla wei ser d)) iv (m_wd cn pla wei op fr, (bw, bs))).2.2))).2)), (ad 2, eT ad (nI cn) due lon), (ad 7, eI 81 (ca 7) wei), (ad 8, eL 32 (ca 8) ser), (ad 13, eL 81 (ca 13) pla)] := hD
              refine lv_iinc (v := nI (iv + 1)) (lv' := [(13, .int (nI (iv + 1))), (9, .long (((fo (m_loopf pla wei (m_few m_pop ser op (m_wd cn pla wei op fr)) op wt tk (m_ext m_pop cn pla wei ser d)) iv (m_wd cn pla wei op fr, (bw, bs))).1) &&& ((zo iv) ^^^ (-1)))), (14, .long (zo iv)), (0, .ref (ad 1)), (1, .int (nI dp)), (2, .long op), (4, .long fr), (6, .int wt), (7, .long tk), (11, .long (m_few m_pop ser op (m_wd cn pla wei op fr)))]) hx hb d_S_extend_145 hl (k := 9) rfl (k_inc _) (by decide) rfl (fun ls hl => ?_)
              refine lv_goto (tgt := 66) hx hb d_S_extend_148 (by decide) ?_
              refine ihiv _ _ _ (by omega) ?_
              have e_6 : (fo (m_loopf pla wei (m_few m_pop ser op (m_wd cn pla wei op fr)) op wt tk (m_ext m_pop cn pla wei ser d)) (iv + 1) (m_wd cn pla wei op fr, (bw, bs))).1 = ((fo (m_loopf pla wei (m_few m_pop ser op (m_wd cn pla wei op fr)) op wt tk (m_ext m_pop cn pla wei ser d)) iv (m_wd cn pla wei op fr, (bw, bs))).1) &&& ((zo iv) ^^^ (-1)) := by simp [fo_s, m_loopf, c_2, c_18, c_50, c_75, c_90, b_90]
              have e_7 : (fo (m_loopf pla wei (m_few m_pop ser op (m_wd cn pla wei op fr)) op wt tk (m_ext m_pop cn pla wei ser d)) (iv + 1) (m_wd cn pla wei op fr, (bw, bs))).2.1 = (m_ext m_pop cn pla wei ser d (op &&& ((pla iv) ^^^ (-1))) (((fo (m_loopf pla wei (m_few m_pop ser op (m_wd cn pla wei op fr)) op wt tk (m_ext m_pop cn pla wei ser d)) iv (m_wd cn pla wei op fr, (bw, bs))).1) &&& ((zo iv) ^^^ (-1))) (wt + (wei iv)) (tk ||| (zo iv)) (((fo (m_loopf pla wei (m_few m_pop ser op (m_wd cn pla wei op fr)) op wt tk (m_ext m_pop cn pla wei ser d)) iv (m_wd cn pla wei op fr, (bw, bs))).2.1), ((fo (m_loopf pla wei (m_few m_pop ser op (m_wd cn pla wei op fr)) op wt tk (m_ext m_pop cn pla wei ser d)) iv (m_wd cn pla wei op fr, (bw, bs))).2.2))).1 := by simp [fo_s, m_loopf, c_2, c_18, c_50, c_75, c_90, b_90]
              have e_8 : (fo (m_loopf pla wei (m_few m_pop ser op (m_wd cn pla wei op fr)) op wt tk (m_ext m_pop cn pla wei ser d)) (iv + 1) (m_wd cn pla wei op fr, (bw, bs))).2.2 = (m_ext m_pop cn pla wei ser d (op &&& ((pla iv) ^^^ (-1))) (((fo (m_loopf pla wei (m_few m_pop ser op (m_wd cn pla wei op fr)) op wt tk (m_ext m_pop cn pla wei ser d)) iv (m_wd cn pla wei op fr, (bw, bs))).1) &&& ((zo iv) ^^^ (-1))) (wt + (wei iv)) (tk ||| (zo iv)) (((fo (m_loopf pla wei (m_few m_pop ser op (m_wd cn pla wei op fr)) op wt tk (m_ext m_pop cn pla wei ser d)) iv (m_wd cn pla wei op fr, (bw, bs))).2.1), ((fo (m_loopf pla wei (m_few m_pop ser op (m_wd cn pla wei op fr)) op wt tk (m_ext m_pop cn pla wei ser d)) iv (m_wd cn pla wei op fr, (bw, bs))).2.2))).2 := by simp [fo_s, m_loopf, c_2, c_18, c_50, c_75, c_90, b_90]
              exact ⟨by (try rw [e_6]); (try rw [e_7]); (try rw [e_8]); exact lv_sub hl [3, 4, 5, 6, 7, 8, 1, 9, 0] rfl, by (try rw [e_6]); (try rw [e_7]); (try rw [e_8]); exact hP, by (try rw [e_6]); (try rw [e_7]); (try rw [e_8]); exact hD, hS, trivial⟩
        · have hdone : True := trivial
          have e_9 : (fo (m_loopf pla wei (m_few m_pop ser op (m_wd cn pla wei op fr)) op wt tk (m_ext m_pop cn pla wei ser d)) 0 (m_wd cn pla wei op fr, (bw, bs))).1 = m_wd cn pla wei op fr := rfl
          have e_10 : nI 0 = 0 := rfl
          have e_11 : (fo (m_loopf pla wei (m_few m_pop ser op (m_wd cn pla wei op fr)) op wt tk (m_ext m_pop cn pla wei ser d)) 0 (m_wd cn pla wei op fr, (bw, bs))).2.1 = bw := rfl
          have e_12 : (fo (m_loopf pla wei (m_few m_pop ser op (m_wd cn pla wei op fr)) op wt tk (m_ext m_pop cn pla wei ser d)) 0 (m_wd cn pla wei op fr, (bw, bs))).2.2 = bs := rfl
          exact ⟨by (try rw [e_9]); (try rw [e_10]); (try rw [e_11]); (try rw [e_12]); exact lv_sub hl [3, 4, 5, 6, 7, 8, 2, 1, 0] rfl, by (try rw [e_9]); (try rw [e_10]); (try rw [e_11]); (try rw [e_12]); exact hP, by (try rw [e_9]); (try rw [e_10]); (try rw [e_11]); (try rw [e_12]); exact hD, hS, trivial⟩
      · have e_13 : (m_ext m_pop cn pla wei ser (d + 1) op fr wt tk (bw, bs)).1 = bw := by simp [m_ext, c_2, c_18, c_50]
        have e_14 : (m_ext m_pop cn pla wei ser (d + 1) op fr wt tk (bw, bs)).2 = bs := by simp [m_ext, c_2, c_18, c_50]
        exact W.vret hx hb hr (fun t ht hW => by (try rw [e_13]); (try rw [e_14]); exact kw_endv hP hD hK hS [0, 1, 2, 3, 4] rfl (by decide) rfl ht hW.alike) hS.2.2 d_S_extend_53
    · exfalso; omega
  · refine lv_aload_n hx hb d_S_extend_6 rfl (lv_at hl 0 rfl) ?_
    refine lv_iload hx hb d_S_extend_7 (lv_at hl 4 rfl) ?_
    refine lv_lload hx hb d_S_extend_9 (lv_at hl 5 rfl) ?_
    have hPc := hP.sub (ws' := [(ad 1, eS ad pk pp bw bs)]) [0] rfl
    have hDc := hD.sub (ws' := [(ad 1, eS ad pk pp bw bs)]) [0] (by decide) rfl
    have hKc := hK.sub (tys' := []) [] rfl
    refine kw_callv (wr := [(ad 2, eT ad (nI cn) due lon), (ad 7, eI 81 (ca 7) wei), (ad 8, eL 32 (ca 8) ser), (ad 13, eL 81 (ca 13) pla)]) (wf := [(ad 1, eS ad pk pp ((m_keep wt tk (bw, bs)).1) ((m_keep wt tk (bw, bs)).2))]) (va_runV (As := [.int wt, .long tk]) (rest := []) ⟨hx, hb, hml, hown, hts⟩ (c_keepIfBetter l dC dI ad ca pk pp bw bs wt tk _) (cwV 2 hts (gd_V mw_264 mw_266 mw_11 mw_41 mw_267) rfl rfl rfl (by decide +kernel) ⟨Nat.le_of_ble_eq_true rfl, Nat.le_of_ble_eq_true rfl⟩) (kw_V (q0 := 0) (ci := 2) hKc hPc hDc rfl rfl) rfl rfl hl.1 rfl (lv_room (Nat.le_of_ble_eq_true rfl)) d_S_extend_11 ⟨Nat.zero_le _, Nat.zero_le _⟩) hP hD hS hA [0] [1, 2, 3, 4] rfl rfl (by decide) (by decide) (fun H locs hP hD hS => ?_)
    have hP : va_P (dC, dI) vC [(ad 2, eT ad (nI cn) due lon), (ad 7, eI 81 (ca 7) wei), (ad 8, eL 32 (ca 8) ser), (ad 13, eL 81 (ca 13) pla), (ad 1, eS ad pk pp ((m_keep wt tk (bw, bs)).1) ((m_keep wt tk (bw, bs)).2))] H := hP
    have hD : va_D A [(ad 2, eT ad (nI cn) due lon), (ad 7, eI 81 (ca 7) wei), (ad 8, eL 32 (ca 8) ser), (ad 13, eL 81 (ca 13) pla), (ad 1, eS ad pk pp ((m_keep wt tk (bw, bs)).1) ((m_keep wt tk (bw, bs)).2))] := hD
    have e_15 : (m_ext m_pop cn pla wei ser (d + 1) op fr wt tk (bw, bs)).1 = (m_keep wt tk (bw, bs)).1 := by simp [m_ext, c_2]
    have e_16 : (m_ext m_pop cn pla wei ser (d + 1) op fr wt tk (bw, bs)).2 = (m_keep wt tk (bw, bs)).2 := by simp [m_ext, c_2]
    exact W.vret hx hb hr (fun t ht hW => by (try rw [e_15]); (try rw [e_16]); exact kw_endv hP hD hK hS [4, 0, 1, 2, 3] rfl (by decide) rfl ht hW.alike) hS.2.2 d_S_extend_14
