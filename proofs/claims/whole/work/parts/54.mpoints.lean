set_option maxHeartbeats 4000000 in
set_option maxRecDepth 100000 in
theorem c_m_pointsOf (l : Launch) (dC : Nat → ClassId) (dI : Nat → Nat → Nat) (ad : Nat → Nat) (ca : Nat → ClassId) (lf : Int32) : Met l y_M_pointsOf w_M_pointsOf ({ frames := 0, cells := 0, slots := 0, locals := 0 }) (kr_P [.int lf] (dC, dI) vC [] []) (vp_Si (fun r => r = nI (cnt (ib lf) 32))) 0 0 (fun _ => False) := by
  refine Met.ofW (cc := b_M_pointsOf) (maxL := 3) (ret := (some .int)) (by decide) rfl ?_
  intro p e s m args below meth c s₁ B hml hv
  obtain ⟨rfl, hP, hK⟩ := hv
  have hx := B.exec
  have hb := B.bytes
  have hr := B.returns
  have hts := atoms_spec (ws := w_M_pointsOf) B.pre
  have hlocks := B.notSynchronized
  have hown : s.vm.findClass R_M = some m.cls := findClass_of_methodNamed B.named
  have hl := lv_entry ([.int lf]) (n := 3) (Nat.le_of_ble_eq_true rfl)
  rw [lg_entry_eq]
  generalize (lg_sl ([.int lf]) ++ List.replicate (3 - (lg_sl ([.int lf])).length) Slot.unset).toArray = ls at hl ⊢
  have hl : lv_has ls 3 [(0, .int lf)] := hl
  refine lv_iconst (v := 0) hx hb d_M_pointsOf_0 (by decide) ?_
  refine lv_istore_n (lv' := [(1, .int 0), (0, .int lf)]) hx hb d_M_pointsOf_1 rfl hl (by decide) rfl (fun ls hl => ?_)
  refine lv_iconst (v := 0) hx hb d_M_pointsOf_2 (by decide) ?_
  refine lv_istore_n (lv' := [(2, .int 0), (1, .int 0), (0, .int lf)]) hx hb d_M_pointsOf_3 rfl hl (by decide) rfl (fun ls hl => ?_)
  refine k_loopR (fun pv ls => lv_has ls 3 [(0, .int lf), (1, .int (nI (cnt (ib lf) pv))), (2, .int (nI pv))] ∧ True) 32 ?_ 0 _ (Nat.zero_le _) ?_
  · intro pv ls hipv hI ihpv
    obtain ⟨hl, -⟩ := hI
    refine lv_iload_n hx hb d_M_pointsOf_4 rfl (lv_at hl 2 rfl) ?_
    refine lv_bipush (v := 32) hx hb d_M_pointsOf_5 (by decide) ?_
    refine k_ge (a := pv) (b := 32) (tgt := 24) hx hb rfl rfl (by omega) (by omega) d_M_pointsOf_7 (by decide) (fun c_7 => ?_) (fun c_7 => ?_)
    · obtain rfl : 32 = pv := by omega
      refine lv_iload_n hx hb d_M_pointsOf_24 rfl (lv_at hl 1 rfl) ?_
      exact W.iret (v := nI (cnt (ib lf) 32)) hx hb hr (fun t ht hW => ⟨nI (cnt (ib lf) 32), rfl, rfl, ht⟩) (fun q h => by cases h) d_M_pointsOf_25
    · refine lv_iload_n hx hb d_M_pointsOf_10 rfl (lv_at hl 1 rfl) ?_
      refine lv_iload_n hx hb d_M_pointsOf_11 rfl (lv_at hl 0 rfl) ?_
      refine lv_iload_n hx hb d_M_pointsOf_12 rfl (lv_at hl 2 rfl) ?_
      refine lv_iushr (v := (lf.toUInt32 >>> ((nI pv).toUInt32 &&& Int32.toUInt32 31)).toInt32) hx hb d_M_pointsOf_13 rfl ?_
      refine lv_iconst (v := 1) hx hb d_M_pointsOf_14 (by decide) ?_
      refine lv_iand hx hb d_M_pointsOf_15 ?_
      rw [ib_ush lf (by omega)]
      refine k_iadd (a := cnt (ib lf) pv) (b := if ib lf pv = true then 1 else 0) hx hb rfl rfl d_M_pointsOf_16 ?_
      refine lv_istore_n (lv' := [(1, .int (nI ((cnt (ib lf) pv) + (if ib lf pv = true then 1 else 0)))), (0, .int lf), (2, .int (nI pv))]) hx hb d_M_pointsOf_17 rfl hl (by decide) rfl (fun ls hl => ?_)
      refine lv_iinc (v := nI (pv + 1)) (lv' := [(2, .int (nI (pv + 1))), (1, .int (nI ((cnt (ib lf) pv) + (if ib lf pv = true then 1 else 0)))), (0, .int lf)]) hx hb d_M_pointsOf_18 hl (k := 2) rfl (k_inc _) (by decide) rfl (fun ls hl => ?_)
      refine lv_goto (tgt := 4) hx hb d_M_pointsOf_21 (by decide) ?_
      refine ihpv _ (by omega) ?_
      have e_1 : nI (cnt (ib lf) (pv + 1)) = nI ((cnt (ib lf) pv) + (if ib lf pv = true then 1 else 0)) := rfl
      exact ⟨by (try rw [e_1]); exact lv_sub hl [2, 1, 0] rfl, trivial⟩
  · have hdone : True := trivial
    have e_2 : nI (cnt (ib lf) 0) = 0 := rfl
    have e_3 : nI 0 = 0 := rfl
    exact ⟨by (try rw [e_2]); (try rw [e_3]); exact lv_sub hl [2, 1, 0] rfl, trivial⟩
set_option maxHeartbeats 4000000 in
set_option maxRecDepth 100000 in
theorem c_m_isHopeless (l : Launch) (dC : Nat → ClassId) (dI : Nat → Nat → Nat) (ad : Nat → Nat) (ca : Nat → ClassId) (thr : Int32) (inn : Int32) (oun : Int32) (mn : Nat) (kno : Int32) (cho : Int32) (kep : Int32) (dep : Int32) (cam : Int32) (csz : Int32) (clo : Int64) (chi : Int64) (cov : Nat → Int32) (lf : Int32) (rn : Nat) (hmn : mn ≤ 81) (hrn : rn ≤ 40) : Met l y_M_isHopeless w_M_isHopeless ({ frames := 1, cells := 0, slots := 0, locals := 22 }) (kr_P [.ref (ad 20), .int lf, .int (nI rn)] (dC, dI) vC [(ad 20, eM ad thr inn oun (nI mn) kno cho kep dep cam csz clo chi), (ad 27, eI 81 (ca 27) cov)] [(ca 27, .int)]) (vp_Si (fun r => r = (if (mo_hop lf cov mn rn) = true then (1 : Int32) else 0))) 0 0 (fun _ => False) := by
  refine Met.ofW (cc := b_M_isHopeless) (maxL := 6) (ret := (some .boolean)) (by decide) rfl ?_
  intro p e s m args below meth c s₁ B hml hv
  obtain ⟨rfl, hP, hK⟩ := hv
  have hx := B.exec
  have hb := B.bytes
  have hr := B.returns
  have hts := atoms_spec (ws := w_M_isHopeless) B.pre
  have hlocks := B.notSynchronized
  have hown : s.vm.findClass R_M = some m.cls := findClass_of_methodNamed B.named
  have hl := lv_entry ([.ref (ad 20), .int lf, .int (nI rn)]) (n := 6) (Nat.le_of_ble_eq_true rfl)
  rw [lg_entry_eq]
  generalize (lg_sl ([.ref (ad 20), .int lf, .int (nI rn)]) ++ List.replicate (6 - (lg_sl ([.ref (ad 20), .int lf, .int (nI rn)])).length) Slot.unset).toArray = ls at hl ⊢
  have hl : lv_has ls 6 [(0, .ref (ad 20)), (1, .int lf), (2, .int (nI rn))] := hl
  refine lv_iconst (v := 0) hx hb d_M_isHopeless_0 (by decide) ?_
  refine lv_istore_n (lv' := [(3, .int 0), (0, .ref (ad 20)), (1, .int lf), (2, .int (nI rn))]) hx hb d_M_isHopeless_1 rfl hl (by decide) rfl (fun ls hl => ?_)
  refine lv_iconst (v := 0) hx hb d_M_isHopeless_2 (by decide) ?_
  refine lv_istore (lv' := [(4, .int 0), (3, .int 0), (0, .ref (ad 20)), (1, .int lf), (2, .int (nI rn))]) hx hb d_M_isHopeless_3 hl (by decide) rfl (fun ls hl => ?_)
  refine k_loopR (fun kv ls => lv_has ls 6 [(0, .ref (ad 20)), (1, .int lf), (2, .int (nI rn)), (3, .int (nI (fo (mo_mof lf cov) kv 0))), (4, .int (nI kv))] ∧ True) mn ?_ 0 _ (Nat.zero_le _) ?_
  · intro kv ls hikv hI ihkv
    obtain ⟨hl, -⟩ := hI
    refine lv_iload hx hb d_M_isHopeless_5 (lv_at hl 4 rfl) ?_
    refine lv_aload_n hx hb d_M_isHopeless_7 rfl (lv_at hl 0 rfl) ?_
    refine va_get (D := (dC, dI)) (ci := 4) (v := .int (nI mn)) (C := R_M) (T := F_M) (N := 33) hx hb hts (hin_of in_M) hown hK hP 0 rfl rfl 5 (by decide) (hw_of hts mw_474) (fun _ h9 => h9) rfl d_M_isHopeless_8 ?_
    refine k_ge (a := kv) (b := mn) (tgt := 47) hx hb rfl rfl (by omega) (by omega) d_M_isHopeless_11 (by decide) (fun c_11 => ?_) (fun c_11 => ?_)
    · obtain rfl : mn = kv := by omega
      refine lv_iload_n hx hb d_M_isHopeless_47 rfl (lv_at hl 1 rfl) ?_
      have hPc := hP.sub (ws' := []) [] rfl
      have hKc := hK.sub (tys' := []) [] rfl
      refine vp_callSi (W.runS (As := [.int lf]) (rest := []) ⟨hx, hb, hml, hown, hts⟩ (c_m_pointsOf l dC dI ad ca lf) (va_cwS 1 hts (gd_S mw_632 mw_633 mw_44 mw_634) rfl rfl rfl (by decide +kernel) ⟨Nat.le_of_ble_eq_true rfl, Nat.le_of_ble_eq_true rfl⟩) (kr_S hKc hPc) rfl rfl hl.1 rfl (lv_room (Nat.le_of_ble_eq_true rfl)) d_M_isHopeless_48 ⟨Nat.zero_le _, Nat.zero_le _⟩) (fun r hq => ?_)
      subst hq
      refine lv_iload_n hx hb d_M_isHopeless_51 rfl (lv_at hl 3 rfl) ?_
      refine lv_iload_n hx hb d_M_isHopeless_52 rfl (lv_at hl 2 rfl) ?_
      refine k_imul (a := fo (mo_mof lf cov) mn 0) (b := rn) hx hb rfl rfl d_M_isHopeless_53 ?_
      have hb3 := cnt_bound (ib lf) 32
      have hb4 : fo (mo_mof lf cov) mn 0 * rn ≤ 32 * 40 := Nat.mul_le_mul (mo_mof_le lf cov mn) hrn
      refine k_le (a := cnt (ib lf) 32) (b := (fo (mo_mof lf cov) mn 0) * rn) (tgt := 61) hx hb rfl rfl (by omega) (Nat.lt_of_le_of_lt hb4 (by decide)) d_M_isHopeless_54 (by decide) (fun c_54 => ?_) (fun c_54 => ?_)
      · refine lv_iconst (v := 0) hx hb d_M_isHopeless_61 (by decide) ?_
        exact W.zret (v := 0) hx hb hr rfl (fun t ht hW => ⟨0, rfl, by unfold mo_hop; (first | rw [decide_eq_true c_54] | rw [decide_eq_false (Nat.not_lt.mpr c_54)]); rfl, ht⟩) (fun q h => by cases h) d_M_isHopeless_62
      · refine lv_iconst (v := 1) hx hb d_M_isHopeless_57 (by decide) ?_
        refine lv_goto (tgt := 62) hx hb d_M_isHopeless_58 (by decide) ?_
        exact W.zret (v := 1) hx hb hr rfl (fun t ht hW => ⟨1, rfl, by unfold mo_hop; (first | rw [decide_eq_true c_54] | rw [decide_eq_false (Nat.not_lt.mpr c_54)]); rfl, ht⟩) (fun q h => by cases h) d_M_isHopeless_62
    · refine lv_iload_n hx hb d_M_isHopeless_14 rfl (lv_at hl 1 rfl) ?_
      refine lv_aload_n hx hb d_M_isHopeless_15 rfl (lv_at hl 0 rfl) ?_
      refine va_get (D := (dC, dI)) (ci := 4) (v := .ref (ad 27)) (C := R_M) (T := F_M) (N := 33) hx hb hts (hin_of in_M) hown hK hP 0 rfl rfl 10 (by decide) (hw_of hts mw_479) (fun _ h9 => h9) rfl d_M_isHopeless_16 ?_
      refine lv_iload hx hb d_M_isHopeless_19 (lv_at hl 4 rfl) ?_
      refine k_iald (k := kv) hx hb hK hP 1 0 rfl rfl rfl (by omega) (by decide) d_M_isHopeless_21 ?_
      refine lv_iand hx hb d_M_isHopeless_22 ?_
      have hPc := hP.sub (ws' := []) [] rfl
      have hKc := hK.sub (tys' := []) [] rfl
      refine vp_callSi (W.runS (As := [.int (lf &&& (cov kv))]) (rest := []) ⟨hx, hb, hml, hown, hts⟩ (c_m_pointsOf l dC dI ad ca (lf &&& (cov kv))) (va_cwS 1 hts (gd_S mw_632 mw_633 mw_44 mw_634) rfl rfl rfl (by decide +kernel) ⟨Nat.le_of_ble_eq_true rfl, Nat.le_of_ble_eq_true rfl⟩) (kr_S hKc hPc) rfl rfl hl.1 rfl (lv_room (Nat.le_of_ble_eq_true rfl)) d_M_isHopeless_23 ⟨Nat.zero_le _, Nat.zero_le _⟩) (fun r hq => ?_)
      subst hq
      refine lv_istore (lv' := [(5, .int (nI (cnt (ib (lf &&& (cov kv))) 32))), (0, .ref (ad 20)), (1, .int lf), (2, .int (nI rn)), (3, .int (nI (fo (mo_mof lf cov) kv 0))), (4, .int (nI kv))]) hx hb d_M_isHopeless_26 hl (by decide) rfl (fun ls hl => ?_)
      refine lv_iload hx hb d_M_isHopeless_28 (lv_at hl 0 rfl) ?_
      refine lv_iload_n hx hb d_M_isHopeless_30 rfl (lv_at hl 4 rfl) ?_
      have hb1 := cnt_bound (ib (lf &&& cov kv)) 32
      have hb2 := mo_mof_le lf cov kv
      refine k_le (a := cnt (ib (lf &&& (cov kv))) 32) (b := fo (mo_mof lf cov) kv 0) (tgt := 39) hx hb rfl rfl (by omega) (by omega) d_M_isHopeless_31 (by decide) (fun c_31 => ?_) (fun c_31 => ?_)
      · refine lv_iload_n hx hb d_M_isHopeless_39 rfl (lv_at hl 4 rfl) ?_
        refine lv_istore_n (lv' := [(3, .int (nI (fo (mo_mof lf cov) kv 0))), (5, .int (nI (cnt (ib (lf &&& (cov kv))) 32))), (0, .ref (ad 20)), (1, .int lf), (2, .int (nI rn)), (4, .int (nI kv))]) hx hb d_M_isHopeless_40 rfl hl (by decide) rfl (fun ls hl => ?_)
        refine lv_iinc (v := nI (kv + 1)) (lv' := [(4, .int (nI (kv + 1))), (3, .int (nI (fo (mo_mof lf cov) kv 0))), (5, .int (nI (cnt (ib (lf &&& (cov kv))) 32))), (0, .ref (ad 20)), (1, .int lf), (2, .int (nI rn))]) hx hb d_M_isHopeless_41 hl (k := 5) rfl (k_inc _) (by decide) rfl (fun ls hl => ?_)
        refine lv_goto (tgt := 5) hx hb d_M_isHopeless_44 (by decide) ?_
        refine ihkv _ (by omega) ?_
        have e_1 : nI (fo (mo_mof lf cov) (kv + 1) 0) = nI (fo (mo_mof lf cov) kv 0) := by rw [fo_s]; congr 1; first | exact if_pos c_31 | exact if_neg (Nat.not_lt.mpr c_31)
        exact ⟨by (try rw [e_1]); exact lv_sub hl [3, 4, 5, 1, 0] rfl, trivial⟩
      · refine lv_iload hx hb d_M_isHopeless_34 (lv_at hl 0 rfl) ?_
        refine lv_goto (tgt := 40) hx hb d_M_isHopeless_36 (by decide) ?_
        refine lv_istore_n (lv' := [(3, .int (nI (cnt (ib (lf &&& (cov kv))) 32))), (5, .int (nI (cnt (ib (lf &&& (cov kv))) 32))), (0, .ref (ad 20)), (1, .int lf), (2, .int (nI rn)), (4, .int (nI kv))]) hx hb d_M_isHopeless_40 rfl hl (by decide) rfl (fun ls hl => ?_)
        refine lv_iinc (v := nI (kv + 1)) (lv' := [(4, .int (nI (kv + 1))), (3, .int (nI (cnt (ib (lf &&& (cov kv))) 32))), (5, .int (nI (cnt (ib (lf &&& (cov kv))) 32))), (0, .ref (ad 20)), (1, .int lf), (2, .int (nI rn))]) hx hb d_M_isHopeless_41 hl (k := 5) rfl (k_inc _) (by decide) rfl (fun ls hl => ?_)
        refine lv_goto (tgt := 5) hx hb d_M_isHopeless_44 (by decide) ?_
        refine ihkv _ (by omega) ?_
        have e_2 : nI (fo (mo_mof lf cov) (kv + 1) 0) = nI (cnt (ib (lf &&& (cov kv))) 32) := by rw [fo_s]; congr 1; first | exact if_pos c_31 | exact if_neg (Nat.not_lt.mpr c_31)
        exact ⟨by (try rw [e_2]); exact lv_sub hl [3, 4, 5, 1, 0] rfl, trivial⟩
  · have hdone : True := trivial
    have e_3 : nI (fo (mo_mof lf cov) 0 0) = 0 := rfl
    have e_4 : nI 0 = 0 := rfl
    exact ⟨by (try rw [e_3]); (try rw [e_4]); exact lv_sub hl [2, 3, 4, 1, 0] rfl, trivial⟩
set_option maxHeartbeats 4000000 in
set_option maxRecDepth 100000 in
theorem c_m_pointOf (l : Launch) (dC : Nat → ClassId) (dI : Nat → Nat → Nat) (ad : Nat → Nat) (ca : Nat → ClassId) (thr : Int32) (inn : Int32) (oun : Int32) (mn : Nat) (kno : Int32) (cho : Int32) (kep : Int32) (dep : Int32) (cam : Int32) (csz : Int32) (clo : Int64) (chi : Int64) (cov : Nat → Int32) (lf : Int32) (hmn : mn ≤ 81) : Met l y_M_pointOf w_M_pointOf ({ frames := 0, cells := 0, slots := 0, locals := 0 }) (kr_P [.ref (ad 20), .int lf] (dC, dI) vC [(ad 20, eM ad thr inn oun (nI mn) kno cho kep dep cam csz clo chi), (ad 27, eI 81 (ca 27) cov)] [(ca 27, .int)]) (vp_Si (fun r => r = mo_po lf cov mn)) 0 0 (fun _ => False) := by
  refine Met.ofW (cc := b_M_pointOf) (maxL := 7) (ret := (some .int)) (by decide) rfl ?_
  intro p e s m args below meth c s₁ B hml hv
  obtain ⟨rfl, hP, hK⟩ := hv
  have hx := B.exec
  have hb := B.bytes
  have hr := B.returns
  have hts := atoms_spec (ws := w_M_pointOf) B.pre
  have hlocks := B.notSynchronized
  have hown : s.vm.findClass R_M = some m.cls := findClass_of_methodNamed B.named
  have hl := lv_entry ([.ref (ad 20), .int lf]) (n := 7) (Nat.le_of_ble_eq_true rfl)
  rw [lg_entry_eq]
  generalize (lg_sl ([.ref (ad 20), .int lf]) ++ List.replicate (7 - (lg_sl ([.ref (ad 20), .int lf])).length) Slot.unset).toArray = ls at hl ⊢
  have hl : lv_has ls 7 [(0, .ref (ad 20)), (1, .int lf)] := hl
  refine lv_iconst (v := (-1)) hx hb d_M_pointOf_0 (by decide) ?_
  refine lv_istore_n (lv' := [(2, .int (-1)), (0, .ref (ad 20)), (1, .int lf)]) hx hb d_M_pointOf_1 rfl hl (by decide) rfl (fun ls hl => ?_)
  refine lv_iconst (v := 0) hx hb d_M_pointOf_2 (by decide) ?_
  refine lv_istore_n (lv' := [(3, .int 0), (2, .int (-1)), (0, .ref (ad 20)), (1, .int lf)]) hx hb d_M_pointOf_3 rfl hl (by decide) rfl (fun ls hl => ?_)
  refine lv_iconst (v := 0) hx hb d_M_pointOf_4 (by decide) ?_
  refine lv_istore (lv' := [(4, .int 0), (3, .int 0), (2, .int (-1)), (0, .ref (ad 20)), (1, .int lf)]) hx hb d_M_pointOf_5 hl (by decide) rfl (fun ls hl => ?_)
  refine k_loopR (fun pv ls => lv_has ls 7 [(0, .ref (ad 20)), (1, .int lf), (2, .int ((fo (mo_pof lf cov mn) pv (-1, 0)).1)), (3, .int (nI ((fo (mo_pof lf cov mn) pv (-1, 0)).2))), (4, .int (nI pv))] ∧ True) 32 ?_ 0 _ (Nat.zero_le _) ?_
  · intro pv ls hipv hI ihpv
    obtain ⟨hl, -⟩ := hI
    refine lv_iload hx hb d_M_pointOf_7 (lv_at hl 4 rfl) ?_
    refine lv_bipush (v := 32) hx hb d_M_pointOf_9 (by decide) ?_
    refine k_ge (a := pv) (b := 32) (tgt := 100) hx hb rfl rfl (by omega) (by omega) d_M_pointOf_11 (by decide) (fun c_11 => ?_) (fun c_11 => ?_)
    · obtain rfl : 32 = pv := by omega
      refine lv_iload_n hx hb d_M_pointOf_100 rfl (lv_at hl 2 rfl) ?_
      exact W.iret (v := (fo (mo_pof lf cov mn) 32 (-1, 0)).1) hx hb hr (fun t ht hW => ⟨(fo (mo_pof lf cov mn) 32 (-1, 0)).1, rfl, rfl, ht⟩) (fun q h => by cases h) d_M_pointOf_101
    · refine lv_iload_n hx hb d_M_pointOf_14 rfl (lv_at hl 1 rfl) ?_
      refine lv_iload hx hb d_M_pointOf_15 (lv_at hl 4 rfl) ?_
      refine lv_iushr (v := (lf.toUInt32 >>> ((nI pv).toUInt32 &&& Int32.toUInt32 31)).toInt32) hx hb d_M_pointOf_17 rfl ?_
      refine lv_iconst (v := 1) hx hb d_M_pointOf_18 (by decide) ?_
      refine lv_iand hx hb d_M_pointOf_19 ?_
      rw [ib_ush lf (by omega)]
      refine k_zne (a := if ib lf pv = true then 1 else 0) (tgt := 26) hx hb rfl (by split <;> decide) d_M_pointOf_20 (by decide) (fun c_20 => ?_) (fun c_20 => ?_)
      · have i_20 : ib lf pv = true := by cases hq : ib lf pv with | true => rfl | false => rw [hq] at c_20; exact absurd rfl c_20
        refine lv_iconst (v := 0) hx hb d_M_pointOf_26 (by decide) ?_
        refine lv_istore (lv' := [(5, .int 0), (0, .ref (ad 20)), (1, .int lf), (2, .int ((fo (mo_pof lf cov mn) pv (-1, 0)).1)), (3, .int (nI ((fo (mo_pof lf cov mn) pv (-1, 0)).2))), (4, .int (nI pv))]) hx hb d_M_pointOf_27 hl (by decide) rfl (fun ls hl => ?_)
        refine lv_iconst (v := 0) hx hb d_M_pointOf_29 (by decide) ?_
        refine lv_istore (lv' := [(6, .int 0), (5, .int 0), (0, .ref (ad 20)), (1, .int lf), (2, .int ((fo (mo_pof lf cov mn) pv (-1, 0)).1)), (3, .int (nI ((fo (mo_pof lf cov mn) pv (-1, 0)).2))), (4, .int (nI pv))]) hx hb d_M_pointOf_30 hl (by decide) rfl (fun ls hl => ?_)
        refine k_loopR (fun kv ls => lv_has ls 7 [(0, .ref (ad 20)), (1, .int lf), (2, .int ((fo (mo_pof lf cov mn) pv (-1, 0)).1)), (3, .int (nI ((fo (mo_pof lf cov mn) pv (-1, 0)).2))), (4, .int (nI pv)), (5, .int (nI (cnt (fun k => ib (cov k) pv) kv))), (6, .int (nI kv))] ∧ True) mn ?_ 0 _ (Nat.zero_le _) ?_
        · intro kv ls hikv hI ihkv
          obtain ⟨hl, -⟩ := hI
          refine lv_iload hx hb d_M_pointOf_32 (lv_at hl 6 rfl) ?_
          refine lv_aload_n hx hb d_M_pointOf_34 rfl (lv_at hl 0 rfl) ?_
          refine va_get (D := (dC, dI)) (ci := 4) (v := .int (nI mn)) (C := R_M) (T := F_M) (N := 33) hx hb hts (hin_of in_M) hown hK hP 0 rfl rfl 5 (by decide) (hw_of hts mw_474) (fun _ h9 => h9) rfl d_M_pointOf_35 ?_
          refine k_ge (a := kv) (b := mn) (tgt := 64) hx hb rfl rfl (by omega) (by omega) d_M_pointOf_38 (by decide) (fun c_38 => ?_) (fun c_38 => ?_)
          · obtain rfl : mn = kv := by omega
            refine lv_iload_n hx hb d_M_pointOf_64 rfl (lv_at hl 2 rfl) ?_
            refine lv_if_lt (tgt := 74) hx hb d_M_pointOf_65 (by decide) (fun c_65 => ?_) (fun c_65 => ?_)
            · refine lv_iload hx hb d_M_pointOf_74 (lv_at hl 4 rfl) ?_
              refine lv_goto (tgt := 80) hx hb d_M_pointOf_76 (by decide) ?_
              refine lv_istore_n (lv' := [(2, .int (nI pv)), (0, .ref (ad 20)), (1, .int lf), (3, .int (nI ((fo (mo_pof lf cov mn) pv (-1, 0)).2))), (4, .int (nI pv)), (5, .int (nI (cnt (fun k => ib (cov k) pv) mn))), (6, .int (nI mn))]) hx hb d_M_pointOf_80 rfl hl (by decide) rfl (fun ls hl => ?_)
              refine lv_iload_n hx hb d_M_pointOf_81 rfl (lv_at hl 0 rfl) ?_
              refine lv_iload hx hb d_M_pointOf_82 (lv_at hl 4 rfl) ?_
              refine lv_icmp_ne (tgt := 92) hx hb d_M_pointOf_84 (by decide) (fun h => absurd rfl h) (fun _ => ?_)
              refine lv_iload hx hb d_M_pointOf_87 (lv_at hl 5 rfl) ?_
              refine lv_goto (tgt := 93) hx hb d_M_pointOf_89 (by decide) ?_
              refine lv_istore_n (lv' := [(3, .int (nI (cnt (fun k => ib (cov k) pv) mn))), (2, .int (nI pv)), (0, .ref (ad 20)), (1, .int lf), (4, .int (nI pv)), (5, .int (nI (cnt (fun k => ib (cov k) pv) mn))), (6, .int (nI mn))]) hx hb d_M_pointOf_93 rfl hl (by decide) rfl (fun ls hl => ?_)
              refine lv_iinc (v := nI (pv + 1)) (lv' := [(4, .int (nI (pv + 1))), (3, .int (nI (cnt (fun k => ib (cov k) pv) mn))), (2, .int (nI pv)), (0, .ref (ad 20)), (1, .int lf), (5, .int (nI (cnt (fun k => ib (cov k) pv) mn))), (6, .int (nI mn))]) hx hb d_M_pointOf_94 hl (k := 4) rfl (k_inc _) (by decide) rfl (fun ls hl => ?_)
              refine lv_goto (tgt := 7) hx hb d_M_pointOf_97 (by decide) ?_
              refine ihpv _ (by omega) ?_
              have e_1 : (fo (mo_pof lf cov mn) (pv + 1) (-1, 0)).1 = nI pv := by rw [fo_s]; (first | rw [mo_pof_f i_20] | rw [mo_pof_a i_20 _ (Or.inl c_65)] | rw [mo_pof_a i_20 _ (Or.inr c_71)] | (rw [mo_pof_b i_20 _ (fun h => h.elim c_65 (Nat.not_lt.mpr c_71))]; first | done | rw [if_neg c_84] | rw [if_pos c_84])); try rfl
              have e_2 : nI ((fo (mo_pof lf cov mn) (pv + 1) (-1, 0)).2) = nI (cnt (fun k => ib (cov k) pv) mn) := by rw [fo_s]; (first | rw [mo_pof_f i_20] | rw [mo_pof_a i_20 _ (Or.inl c_65)] | rw [mo_pof_a i_20 _ (Or.inr c_71)] | (rw [mo_pof_b i_20 _ (fun h => h.elim c_65 (Nat.not_lt.mpr c_71))]; first | done | rw [if_neg c_84] | rw [if_pos c_84])); try rfl
              exact ⟨by (try rw [e_1]); (try rw [e_2]); exact lv_sub hl [3, 4, 2, 1, 0] rfl, trivial⟩
            · refine lv_iload hx hb d_M_pointOf_68 (lv_at hl 5 rfl) ?_
              refine lv_iload_n hx hb d_M_pointOf_70 rfl (lv_at hl 3 rfl) ?_
              have hb1 := cnt_bound (fun k => ib (cov k) pv) mn
              have hb2 := mo_pof_le lf cov mn pv
              refine k_ge (a := cnt (fun k => ib (cov k) pv) mn) (b := (fo (mo_pof lf cov mn) pv (-1, 0)).2) (tgt := 79) hx hb rfl rfl (by omega) (by omega) d_M_pointOf_71 (by decide) (fun c_71 => ?_) (fun c_71 => ?_)
              · refine lv_iload_n hx hb d_M_pointOf_79 rfl (lv_at hl 2 rfl) ?_
                refine lv_istore_n (lv' := [(2, .int ((fo (mo_pof lf cov mn) pv (-1, 0)).1)), (0, .ref (ad 20)), (1, .int lf), (3, .int (nI ((fo (mo_pof lf cov mn) pv (-1, 0)).2))), (4, .int (nI pv)), (5, .int (nI (cnt (fun k => ib (cov k) pv) mn))), (6, .int (nI mn))]) hx hb d_M_pointOf_80 rfl hl (by decide) rfl (fun ls hl => ?_)
                refine lv_iload_n hx hb d_M_pointOf_81 rfl (lv_at hl 0 rfl) ?_
                refine lv_iload hx hb d_M_pointOf_82 (lv_at hl 4 rfl) ?_
                refine lv_icmp_ne (tgt := 92) hx hb d_M_pointOf_84 (by decide) (fun c_84 => ?_) (fun c_84 => ?_)
                · refine lv_iload_n hx hb d_M_pointOf_92 rfl (lv_at hl 3 rfl) ?_
                  refine lv_istore_n (lv' := [(3, .int (nI ((fo (mo_pof lf cov mn) pv (-1, 0)).2))), (2, .int ((fo (mo_pof lf cov mn) pv (-1, 0)).1)), (0, .ref (ad 20)), (1, .int lf), (4, .int (nI pv)), (5, .int (nI (cnt (fun k => ib (cov k) pv) mn))), (6, .int (nI mn))]) hx hb d_M_pointOf_93 rfl hl (by decide) rfl (fun ls hl => ?_)
                  refine lv_iinc (v := nI (pv + 1)) (lv' := [(4, .int (nI (pv + 1))), (3, .int (nI ((fo (mo_pof lf cov mn) pv (-1, 0)).2))), (2, .int ((fo (mo_pof lf cov mn) pv (-1, 0)).1)), (0, .ref (ad 20)), (1, .int lf), (5, .int (nI (cnt (fun k => ib (cov k) pv) mn))), (6, .int (nI mn))]) hx hb d_M_pointOf_94 hl (k := 4) rfl (k_inc _) (by decide) rfl (fun ls hl => ?_)
                  refine lv_goto (tgt := 7) hx hb d_M_pointOf_97 (by decide) ?_
                  refine ihpv _ (by omega) ?_
                  have e_3 : (fo (mo_pof lf cov mn) (pv + 1) (-1, 0)).1 = (fo (mo_pof lf cov mn) pv (-1, 0)).1 := by rw [fo_s]; (first | rw [mo_pof_f i_20] | rw [mo_pof_a i_20 _ (Or.inl c_65)] | rw [mo_pof_a i_20 _ (Or.inr c_71)] | (rw [mo_pof_b i_20 _ (fun h => h.elim c_65 (Nat.not_lt.mpr c_71))]; first | done | rw [if_neg c_84] | rw [if_pos c_84])); try rfl
                  have e_4 : nI ((fo (mo_pof lf cov mn) (pv + 1) (-1, 0)).2) = nI ((fo (mo_pof lf cov mn) pv (-1, 0)).2) := by rw [fo_s]; (first | rw [mo_pof_f i_20] | rw [mo_pof_a i_20 _ (Or.inl c_65)] | rw [mo_pof_a i_20 _ (Or.inr c_71)] | (rw [mo_pof_b i_20 _ (fun h => h.elim c_65 (Nat.not_lt.mpr c_71))]; first | done | rw [if_neg c_84] | rw [if_pos c_84])); try rfl
                  exact ⟨by (try rw [e_3]); (try rw [e_4]); exact lv_sub hl [3, 4, 2, 1, 0] rfl, trivial⟩
                · refine lv_iload hx hb d_M_pointOf_87 (lv_at hl 5 rfl) ?_
                  refine lv_goto (tgt := 93) hx hb d_M_pointOf_89 (by decide) ?_
                  refine lv_istore_n (lv' := [(3, .int (nI (cnt (fun k => ib (cov k) pv) mn))), (2, .int ((fo (mo_pof lf cov mn) pv (-1, 0)).1)), (0, .ref (ad 20)), (1, .int lf), (4, .int (nI pv)), (5, .int (nI (cnt (fun k => ib (cov k) pv) mn))), (6, .int (nI mn))]) hx hb d_M_pointOf_93 rfl hl (by decide) rfl (fun ls hl => ?_)
                  refine lv_iinc (v := nI (pv + 1)) (lv' := [(4, .int (nI (pv + 1))), (3, .int (nI (cnt (fun k => ib (cov k) pv) mn))), (2, .int ((fo (mo_pof lf cov mn) pv (-1, 0)).1)), (0, .ref (ad 20)), (1, .int lf), (5, .int (nI (cnt (fun k => ib (cov k) pv) mn))), (6, .int (nI mn))]) hx hb d_M_pointOf_94 hl (k := 4) rfl (k_inc _) (by decide) rfl (fun ls hl => ?_)
                  refine lv_goto (tgt := 7) hx hb d_M_pointOf_97 (by decide) ?_
                  refine ihpv _ (by omega) ?_
                  have e_5 : (fo (mo_pof lf cov mn) (pv + 1) (-1, 0)).1 = (fo (mo_pof lf cov mn) pv (-1, 0)).1 := by rw [fo_s]; (first | rw [mo_pof_f i_20] | rw [mo_pof_a i_20 _ (Or.inl c_65)] | rw [mo_pof_a i_20 _ (Or.inr c_71)] | (rw [mo_pof_b i_20 _ (fun h => h.elim c_65 (Nat.not_lt.mpr c_71))]; first | done | rw [if_neg c_84] | rw [if_pos c_84])); try rfl
                  have e_6 : nI ((fo (mo_pof lf cov mn) (pv + 1) (-1, 0)).2) = nI (cnt (fun k => ib (cov k) pv) mn) := by rw [fo_s]; (first | rw [mo_pof_f i_20] | rw [mo_pof_a i_20 _ (Or.inl c_65)] | rw [mo_pof_a i_20 _ (Or.inr c_71)] | (rw [mo_pof_b i_20 _ (fun h => h.elim c_65 (Nat.not_lt.mpr c_71))]; first | done | rw [if_neg c_84] | rw [if_pos c_84])); try rfl
                  exact ⟨by (try rw [e_5]); (try rw [e_6]); exact lv_sub hl [3, 4, 2, 1, 0] rfl, trivial⟩
              · refine lv_iload hx hb d_M_pointOf_74 (lv_at hl 4 rfl) ?_
                refine lv_goto (tgt := 80) hx hb d_M_pointOf_76 (by decide) ?_
                refine lv_istore_n (lv' := [(2, .int (nI pv)), (0, .ref (ad 20)), (1, .int lf), (3, .int (nI ((fo (mo_pof lf cov mn) pv (-1, 0)).2))), (4, .int (nI pv)), (5, .int (nI (cnt (fun k => ib (cov k) pv) mn))), (6, .int (nI mn))]) hx hb d_M_pointOf_80 rfl hl (by decide) rfl (fun ls hl => ?_)
                refine lv_iload_n hx hb d_M_pointOf_81 rfl (lv_at hl 0 rfl) ?_
                refine lv_iload hx hb d_M_pointOf_82 (lv_at hl 4 rfl) ?_
                refine lv_icmp_ne (tgt := 92) hx hb d_M_pointOf_84 (by decide) (fun h => absurd rfl h) (fun _ => ?_)
                refine lv_iload hx hb d_M_pointOf_87 (lv_at hl 5 rfl) ?_
                refine lv_goto (tgt := 93) hx hb d_M_pointOf_89 (by decide) ?_
                refine lv_istore_n (lv' := [(3, .int (nI (cnt (fun k => ib (cov k) pv) mn))), (2, .int (nI pv)), (0, .ref (ad 20)), (1, .int lf), (4, .int (nI pv)), (5, .int (nI (cnt (fun k => ib (cov k) pv) mn))), (6, .int (nI mn))]) hx hb d_M_pointOf_93 rfl hl (by decide) rfl (fun ls hl => ?_)
                refine lv_iinc (v := nI (pv + 1)) (lv' := [(4, .int (nI (pv + 1))), (3, .int (nI (cnt (fun k => ib (cov k) pv) mn))), (2, .int (nI pv)), (0, .ref (ad 20)), (1, .int lf), (5, .int (nI (cnt (fun k => ib (cov k) pv) mn))), (6, .int (nI mn))]) hx hb d_M_pointOf_94 hl (k := 4) rfl (k_inc _) (by decide) rfl (fun ls hl => ?_)
                refine lv_goto (tgt := 7) hx hb d_M_pointOf_97 (by decide) ?_
                refine ihpv _ (by omega) ?_
                have e_7 : (fo (mo_pof lf cov mn) (pv + 1) (-1, 0)).1 = nI pv := by rw [fo_s]; (first | rw [mo_pof_f i_20] | rw [mo_pof_a i_20 _ (Or.inl c_65)] | rw [mo_pof_a i_20 _ (Or.inr c_71)] | (rw [mo_pof_b i_20 _ (fun h => h.elim c_65 (Nat.not_lt.mpr c_71))]; first | done | rw [if_neg c_84] | rw [if_pos c_84])); try rfl
                have e_8 : nI ((fo (mo_pof lf cov mn) (pv + 1) (-1, 0)).2) = nI (cnt (fun k => ib (cov k) pv) mn) := by rw [fo_s]; (first | rw [mo_pof_f i_20] | rw [mo_pof_a i_20 _ (Or.inl c_65)] | rw [mo_pof_a i_20 _ (Or.inr c_71)] | (rw [mo_pof_b i_20 _ (fun h => h.elim c_65 (Nat.not_lt.mpr c_71))]; first | done | rw [if_neg c_84] | rw [if_pos c_84])); try rfl
                exact ⟨by (try rw [e_7]); (try rw [e_8]); exact lv_sub hl [3, 4, 2, 1, 0] rfl, trivial⟩
          · refine lv_iload hx hb d_M_pointOf_41 (lv_at hl 5 rfl) ?_
            refine lv_aload_n hx hb d_M_pointOf_43 rfl (lv_at hl 0 rfl) ?_
            refine va_get (D := (dC, dI)) (ci := 4) (v := .ref (ad 27)) (C := R_M) (T := F_M) (N := 33) hx hb hts (hin_of in_M) hown hK hP 0 rfl rfl 10 (by decide) (hw_of hts mw_479) (fun _ h9 => h9) rfl d_M_pointOf_44 ?_
            refine lv_iload hx hb d_M_pointOf_47 (lv_at hl 6 rfl) ?_
            refine k_iald (k := kv) hx hb hK hP 1 0 rfl rfl rfl (by omega) (by decide) d_M_pointOf_49 ?_
            refine lv_iload hx hb d_M_pointOf_50 (lv_at hl 4 rfl) ?_
            refine lv_iushr (v := ((cov kv).toUInt32 >>> ((nI pv).toUInt32 &&& Int32.toUInt32 31)).toInt32) hx hb d_M_pointOf_52 rfl ?_
            refine lv_iconst (v := 1) hx hb d_M_pointOf_53 (by decide) ?_
            refine lv_iand hx hb d_M_pointOf_54 ?_
            rw [ib_ush (cov kv) (by omega)]
            refine k_iadd (a := cnt (fun k => ib (cov k) pv) kv) (b := if ib (cov kv) pv = true then 1 else 0) hx hb rfl rfl d_M_pointOf_55 ?_
            refine lv_istore (lv' := [(5, .int (nI ((cnt (fun k => ib (cov k) pv) kv) + (if ib (cov kv) pv = true then 1 else 0)))), (0, .ref (ad 20)), (1, .int lf), (2, .int ((fo (mo_pof lf cov mn) pv (-1, 0)).1)), (3, .int (nI ((fo (mo_pof lf cov mn) pv (-1, 0)).2))), (4, .int (nI pv)), (6, .int (nI kv))]) hx hb d_M_pointOf_56 hl (by decide) rfl (fun ls hl => ?_)
            refine lv_iinc (v := nI (kv + 1)) (lv' := [(6, .int (nI (kv + 1))), (5, .int (nI ((cnt (fun k => ib (cov k) pv) kv) + (if ib (cov kv) pv = true then 1 else 0)))), (0, .ref (ad 20)), (1, .int lf), (2, .int ((fo (mo_pof lf cov mn) pv (-1, 0)).1)), (3, .int (nI ((fo (mo_pof lf cov mn) pv (-1, 0)).2))), (4, .int (nI pv))]) hx hb d_M_pointOf_58 hl (k := 6) rfl (k_inc _) (by decide) rfl (fun ls hl => ?_)
            refine lv_goto (tgt := 32) hx hb d_M_pointOf_61 (by decide) ?_
            refine ihkv _ (by omega) ?_
            have e_9 : nI (cnt (fun k => ib (cov k) pv) (kv + 1)) = nI ((cnt (fun k => ib (cov k) pv) kv) + (if ib (cov kv) pv = true then 1 else 0)) := rfl
            exact ⟨by (try rw [e_9]); exact lv_sub hl [2, 3, 4, 5, 6, 1, 0] rfl, trivial⟩
        · have hdone : True := trivial
          have e_10 : nI (cnt (fun k => ib (cov k) pv) 0) = 0 := rfl
          have e_11 : nI 0 = 0 := rfl
          exact ⟨by (try rw [e_10]); (try rw [e_11]); exact lv_sub hl [2, 3, 4, 5, 6, 1, 0] rfl, trivial⟩
      · have i_20 : ib lf pv = false := by cases hq : ib lf pv with | false => rfl | true => rw [hq] at c_20; exact absurd c_20 (by decide)
        refine lv_goto (tgt := 94) hx hb d_M_pointOf_23 (by decide) ?_
        refine lv_iinc (v := nI (pv + 1)) (lv' := [(4, .int (nI (pv + 1))), (0, .ref (ad 20)), (1, .int lf), (2, .int ((fo (mo_pof lf cov mn) pv (-1, 0)).1)), (3, .int (nI ((fo (mo_pof lf cov mn) pv (-1, 0)).2)))]) hx hb d_M_pointOf_94 hl (k := 4) rfl (k_inc _) (by decide) rfl (fun ls hl => ?_)
        refine lv_goto (tgt := 7) hx hb d_M_pointOf_97 (by decide) ?_
        refine ihpv _ (by omega) ?_
        have e_12 : (fo (mo_pof lf cov mn) (pv + 1) (-1, 0)).1 = (fo (mo_pof lf cov mn) pv (-1, 0)).1 := by rw [fo_s]; (first | rw [mo_pof_f i_20] | rw [mo_pof_a i_20 _ (Or.inl c_65)] | rw [mo_pof_a i_20 _ (Or.inr c_71)] | (rw [mo_pof_b i_20 _ (fun h => h.elim c_65 (Nat.not_lt.mpr c_71))]; first | done | rw [if_neg c_84] | rw [if_pos c_84])); try rfl
        have e_13 : nI ((fo (mo_pof lf cov mn) (pv + 1) (-1, 0)).2) = nI ((fo (mo_pof lf cov mn) pv (-1, 0)).2) := by rw [fo_s]; (first | rw [mo_pof_f i_20] | rw [mo_pof_a i_20 _ (Or.inl c_65)] | rw [mo_pof_a i_20 _ (Or.inr c_71)] | (rw [mo_pof_b i_20 _ (fun h => h.elim c_65 (Nat.not_lt.mpr c_71))]; first | done | rw [if_neg c_84] | rw [if_pos c_84])); try rfl
        exact ⟨by (try rw [e_12]); (try rw [e_13]); exact lv_sub hl [1, 2, 3, 4, 0] rfl, trivial⟩
  · have hdone : True := trivial
    have e_14 : (fo (mo_pof lf cov mn) 0 (-1, 0)).1 = (-1) := rfl
    have e_15 : nI ((fo (mo_pof lf cov mn) 0 (-1, 0)).2) = 0 := rfl
    have e_16 : nI 0 = 0 := rfl
    exact ⟨by (try rw [e_14]); (try rw [e_15]); (try rw [e_16]); exact lv_sub hl [3, 4, 2, 1, 0] rfl, trivial⟩
