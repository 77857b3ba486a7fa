set_option maxHeartbeats 4000000 in
set_option maxRecDepth 100000 in
theorem c_serversOf (l : Launch) (dC : Nat → ClassId) (dI : Nat → Nat → Nat) (ad : Nat → Nat) (ca : Nat → ClassId) (pk : Int32) (pp : Int32) (bw : Int32) (bs : Int64) (cn : Nat) (hc : cn ≤ 63) (due : Int64) (lon : Int64) (pla : Nat → Int64) (q : Nat) (hq : q < 32) : Met l y_S_serversOf w_S_serversOf ({ frames := 0, cells := 0, slots := 0, locals := 0 }) (kr_P [.ref (ad 1), .int (nI q)] (dC, dI) vC [(ad 1, eS ad pk pp bw bs), (ad 2, eT ad (nI cn) due lon), (ad 13, eL 81 (ca 13) pla)] [(ca 13, .long)]) (vp_Sl (fun r => r = fo (mc_svf pla q) cn 0)) 0 0 (fun _ => False) := by
  refine Met.ofW (cc := b_S_serversOf) (maxL := 5) (ret := (some .long)) (by decide) rfl ?_
  intro p e s m args below meth c s₁ B hml hv
  obtain ⟨rfl, hP, hK⟩ := hv
  have hx := B.exec
  have hb := B.bytes
  have hr := B.returns
  have hts := atoms_spec (ws := w_S_serversOf) B.pre
  have hlocks := B.notSynchronized
  have hown : s.vm.findClass R_S = some m.cls := findClass_of_methodNamed B.named
  have hl := lv_entry ([.ref (ad 1), .int (nI q)]) (n := 5) (Nat.le_of_ble_eq_true rfl)
  rw [lg_entry_eq]
  generalize (lg_sl ([.ref (ad 1), .int (nI q)]) ++ List.replicate (5 - (lg_sl ([.ref (ad 1), .int (nI q)])).length) Slot.unset).toArray = ls at hl ⊢
  have hl : lv_has ls 5 [(0, .ref (ad 1)), (1, .int (nI q))] := hl
  refine lv_lconst (v := 0) hx hb d_S_serversOf_0 rfl ?_
  refine lv_lstore_n (lv' := [(2, .long 0), (0, .ref (ad 1)), (1, .int (nI q))]) hx hb d_S_serversOf_1 rfl hl (by decide) rfl (fun ls hl => ?_)
  refine lv_iconst (v := 0) hx hb d_S_serversOf_2 (by decide) ?_
  refine lv_istore (lv' := [(4, .int 0), (2, .long 0), (0, .ref (ad 1)), (1, .int (nI q))]) hx hb d_S_serversOf_3 hl (by decide) rfl (fun ls hl => ?_)
  refine k_loopR (fun iv ls => lv_has ls 5 [(0, .ref (ad 1)), (1, .int (nI q)), (2, .long (fo (mc_svf pla q) iv 0)), (4, .int (nI iv))] ∧ True) cn ?_ 0 _ (Nat.zero_le _) ?_
  · intro iv ls hiiv hI ihiv
    obtain ⟨hl, -⟩ := hI
    refine lv_iload hx hb d_S_serversOf_5 (lv_at hl 3 rfl) ?_
    refine lv_aload_n hx hb d_S_serversOf_7 rfl (lv_at hl 0 rfl) ?_
    refine va_get (D := (dC, dI)) (ci := 2) (v := .ref (ad 2)) (C := R_S) (T := F_S) (N := 8) hx hb hts (hin_of in_S) hown hK hP 0 rfl rfl 3 (by decide) (hw_of hts mw_144) (fun _ h9 => h9) rfl d_S_serversOf_8 ?_
    refine va_get (D := (dC, dI)) (ci := 0) (v := .int (nI cn)) (C := R_T) (T := F_T) (N := 10) hx hb hts (hin_of in_T) hown hK hP 1 rfl rfl 5 (by decide) (hw_of hts mw_109) (fun _ h9 => h9) rfl d_S_serversOf_11 ?_
    refine k_ge (a := iv) (b := cn) (tgt := 43) hx hb rfl rfl (by omega) (by omega) d_S_serversOf_14 (by decide) (fun c_14 => ?_) (fun c_14 => ?_)
    · obtain rfl : cn = iv := by omega
      refine lv_lload_n hx hb d_S_serversOf_43 rfl (lv_at hl 2 rfl) ?_
      exact W.lret (v := fo (mc_svf pla q) cn 0) hx hb hr (fun t ht hW => ⟨fo (mc_svf pla q) cn 0, rfl, rfl, ht⟩) (fun q h => by cases h) d_S_serversOf_44
    · refine lv_lload_n hx hb d_S_serversOf_17 rfl (lv_at hl 2 rfl) ?_
      refine lv_aload_n hx hb d_S_serversOf_18 rfl (lv_at hl 0 rfl) ?_
      refine va_get (D := (dC, dI)) (ci := 2) (v := .ref (ad 2)) (C := R_S) (T := F_S) (N := 8) hx hb hts (hin_of in_S) hown hK hP 0 rfl rfl 3 (by decide) (hw_of hts mw_144) (fun _ h9 => h9) rfl d_S_serversOf_19 ?_
      refine va_get (D := (dC, dI)) (ci := 0) (v := .ref (ad 13)) (C := R_T) (T := F_T) (N := 10) hx hb hts (hin_of in_T) hown hK hP 1 rfl rfl 4 (by decide) (hw_of hts mw_108) (fun _ h9 => h9) rfl d_S_serversOf_22 ?_
      refine lv_iload hx hb d_S_serversOf_25 (lv_at hl 3 rfl) ?_
      refine k_lald (k := iv) hx hb hK hP 2 0 rfl rfl rfl (by omega) (by decide) d_S_serversOf_27 ?_
      refine lv_iload_n hx hb d_S_serversOf_28 rfl (lv_at hl 1 rfl) ?_
      refine lv_lshr (v := (pla iv) >>> ((nI q).toInt64 &&& 63)) hx hb d_S_serversOf_29 rfl ?_
      refine lv_lconst (v := 1) hx hb d_S_serversOf_30 rfl ?_
      refine lv_land hx hb d_S_serversOf_31 ?_
      refine lv_iload hx hb d_S_serversOf_32 (lv_at hl 3 rfl) ?_
      refine lv_lshl (v := (((pla iv) >>> ((nI q).toInt64 &&& 63)) &&& 1) <<< ((nI iv).toInt64 &&& 63)) hx hb d_S_serversOf_34 rfl ?_
      refine lv_lor hx hb d_S_serversOf_35 ?_
      refine lv_lstore_n (lv' := [(2, .long ((fo (mc_svf pla q) iv 0) ||| ((((pla iv) >>> ((nI q).toInt64 &&& 63)) &&& 1) <<< ((nI iv).toInt64 &&& 63)))), (0, .ref (ad 1)), (1, .int (nI q)), (4, .int (nI iv))]) hx hb d_S_serversOf_36 rfl hl (by decide) rfl (fun ls hl => ?_)
      refine lv_iinc (v := nI (iv + 1)) (lv' := [(4, .int (nI (iv + 1))), (2, .long ((fo (mc_svf pla q) iv 0) ||| ((((pla iv) >>> ((nI q).toInt64 &&& 63)) &&& 1) <<< ((nI iv).toInt64 &&& 63)))), (0, .ref (ad 1)), (1, .int (nI q))]) hx hb d_S_serversOf_37 hl (k := 3) rfl (k_inc _) (by decide) rfl (fun ls hl => ?_)
      refine lv_goto (tgt := 5) hx hb d_S_serversOf_40 (by decide) ?_
      refine ihiv _ (by omega) ?_
      have e_1 : fo (mc_svf pla q) (iv + 1) 0 = (fo (mc_svf pla q) iv 0) ||| ((((pla iv) >>> ((nI q).toInt64 &&& 63)) &&& 1) <<< ((nI iv).toInt64 &&& 63)) := rfl
      exact ⟨by (try rw [e_1]); exact lv_sub hl [2, 3, 1, 0] rfl, trivial⟩
  · have hdone : True := trivial
    have e_2 : fo (mc_svf pla q) 0 0 = 0 := rfl
    have e_3 : nI 0 = 0 := rfl
    exact ⟨by (try rw [e_2]); (try rw [e_3]); exact lv_sub hl [2, 3, 1, 0] rfl, trivial⟩
set_option maxHeartbeats 4000000 in
set_option maxRecDepth 100000 in
theorem c_isBetter (l : Launch) (dC : Nat → ClassId) (dI : Nat → Nat → Nat) (ad : Nat → Nat) (ca : Nat → ClassId) (pk : Int32) (pp : Int32) (bw : Int32) (bs : Int64) (wt : Int32) (sm : Int64) : Met l y_S_isBetterThanBest w_S_isBetterThanBest ({ frames := 0, cells := 0, slots := 0, locals := 0 }) (kr_P [.ref (ad 1), .int wt, .long sm] (dC, dI) vC [(ad 1, eS ad pk pp bw bs)] []) (vp_Si (fun r => r = if (m_bet wt sm bw bs) = true then 1 else 0)) 0 0 (fun _ => False) := by
  refine Met.ofW (cc := b_S_isBetterThanBest) (maxL := 8) (ret := (some .boolean)) (by decide) rfl ?_
  intro p e s m args below meth c s₁ B hml hv
  obtain ⟨rfl, hP, hK⟩ := hv
  have hx := B.exec
  have hb := B.bytes
  have hr := B.returns
  have hts := atoms_spec (ws := w_S_isBetterThanBest) B.pre
  have hlocks := B.notSynchronized
  have hown : s.vm.findClass R_S = some m.cls := findClass_of_methodNamed B.named
  have hl := lv_entry ([.ref (ad 1), .int wt, .long sm]) (n := 8) (Nat.le_of_ble_eq_true rfl)
  rw [lg_entry_eq]
  generalize (lg_sl ([.ref (ad 1), .int wt, .long sm]) ++ List.replicate (8 - (lg_sl ([.ref (ad 1), .int wt, .long sm])).length) Slot.unset).toArray = ls at hl ⊢
  have hl : lv_has ls 8 [(0, .ref (ad 1)), (1, .int wt), (2, .long sm)] := hl
  refine lv_lload_n hx hb d_S_isBetterThanBest_0 rfl (lv_at hl 2 rfl) ?_
  refine lv_aload_n hx hb d_S_isBetterThanBest_1 rfl (lv_at hl 0 rfl) ?_
  refine va_get (D := (dC, dI)) (ci := 2) (v := .long bs) (C := R_S) (T := F_S) (N := 8) hx hb hts (hin_of in_S) hown hK hP 0 rfl rfl 7 (by decide) (hw_of hts mw_149) (fun _ h9 => h9) rfl d_S_isBetterThanBest_2 ?_
  refine lv_lxor hx hb d_S_isBetterThanBest_5 ?_
  refine lv_lstore (lv' := [(4, .long (sm ^^^ bs)), (0, .ref (ad 1)), (1, .int wt), (2, .long sm)]) hx hb d_S_isBetterThanBest_6 hl (by decide) rfl (fun ls hl => ?_)
  refine lv_lload hx hb d_S_isBetterThanBest_8 (lv_at hl 0 rfl) ?_
  refine lv_lload hx hb d_S_isBetterThanBest_10 (lv_at hl 0 rfl) ?_
  refine lv_lneg hx hb d_S_isBetterThanBest_12 ?_
  refine lv_land hx hb d_S_isBetterThanBest_13 ?_
  refine lv_lstore (lv' := [(6, .long ((sm ^^^ bs) &&& (-(sm ^^^ bs)))), (4, .long (sm ^^^ bs)), (0, .ref (ad 1)), (1, .int wt), (2, .long sm)]) hx hb d_S_isBetterThanBest_14 hl (by decide) rfl (fun ls hl => ?_)
  refine lv_iload_n hx hb d_S_isBetterThanBest_16 rfl (lv_at hl 3 rfl) ?_
  refine lv_aload_n hx hb d_S_isBetterThanBest_17 rfl (lv_at hl 2 rfl) ?_
  refine va_get (D := (dC, dI)) (ci := 2) (v := .int bw) (C := R_S) (T := F_S) (N := 8) hx hb hts (hin_of in_S) hown hK hP 0 rfl rfl 6 (by decide) (hw_of hts mw_148) (fun _ h9 => h9) rfl d_S_isBetterThanBest_18 ?_
  refine lv_icmp_lt (tgt := 41) hx hb d_S_isBetterThanBest_21 (by decide) (fun c_21 => ?_) (fun c_21 => ?_)
  · refine lv_iconst (v := 1) hx hb d_S_isBetterThanBest_41 (by decide) ?_
    refine lv_goto (tgt := 46) hx hb d_S_isBetterThanBest_42 (by decide) ?_
    exact W.zret (v := 1) hx hb hr rfl (fun t ht hW => ⟨1, rfl, by unfold m_bet; (first | rw [decide_eq_true c_21] | rw [decide_eq_false c_21] | rw [decide_eq_false (Nat.not_lt.mpr c_21)] | rw [decide_eq_false (Nat.not_le.mpr c_21)] | rw [c_21] | skip); rfl, ht⟩) (fun q h => by cases h) d_S_isBetterThanBest_46
  · refine lv_iload_n hx hb d_S_isBetterThanBest_24 rfl (lv_at hl 3 rfl) ?_
    refine lv_aload_n hx hb d_S_isBetterThanBest_25 rfl (lv_at hl 2 rfl) ?_
    refine va_get (D := (dC, dI)) (ci := 2) (v := .int bw) (C := R_S) (T := F_S) (N := 8) hx hb hts (hin_of in_S) hown hK hP 0 rfl rfl 6 (by decide) (hw_of hts mw_148) (fun _ h9 => h9) rfl d_S_isBetterThanBest_26 ?_
    refine lv_icmp_ne (tgt := 45) hx hb d_S_isBetterThanBest_29 (by decide) (fun c_29 => ?_) (fun c_29 => ?_)
    · refine lv_iconst (v := 0) hx hb d_S_isBetterThanBest_45 (by decide) ?_
      exact W.zret (v := 0) hx hb hr rfl (fun t ht hW => ⟨0, rfl, by unfold m_bet; (first | rw [decide_eq_true c_21] | rw [decide_eq_false c_21] | rw [decide_eq_false (Nat.not_lt.mpr c_21)] | rw [decide_eq_false (Nat.not_le.mpr c_21)] | rw [c_21] | skip); (first | rw [decide_eq_true c_29] | rw [decide_eq_false c_29] | rw [decide_eq_false (Nat.not_lt.mpr c_29)] | rw [decide_eq_false (Nat.not_le.mpr c_29)] | rw [c_29] | skip); rfl, ht⟩) (fun q h => by cases h) d_S_isBetterThanBest_46
    · refine lv_lload_n hx hb d_S_isBetterThanBest_32 rfl (lv_at hl 4 rfl) ?_
      refine lv_lload hx hb d_S_isBetterThanBest_33 (lv_at hl 0 rfl) ?_
      refine lv_land hx hb d_S_isBetterThanBest_35 ?_
      refine lv_lconst (v := 0) hx hb d_S_isBetterThanBest_36 rfl ?_
      refine k_leq (tgt := 45) hx hb d_S_isBetterThanBest_37 d_S_isBetterThanBest_38 (by decide) (fun c_37 => ?_) (fun c_37 => ?_)
      · refine lv_iconst (v := 0) hx hb d_S_isBetterThanBest_45 (by decide) ?_
        exact W.zret (v := 0) hx hb hr rfl (fun t ht hW => ⟨0, rfl, by unfold m_bet; (first | rw [decide_eq_true c_21] | rw [decide_eq_false c_21] | rw [decide_eq_false (Nat.not_lt.mpr c_21)] | rw [decide_eq_false (Nat.not_le.mpr c_21)] | rw [c_21] | skip); (first | rw [decide_eq_true c_29] | rw [decide_eq_false c_29] | rw [decide_eq_false (Nat.not_lt.mpr c_29)] | rw [decide_eq_false (Nat.not_le.mpr c_29)] | rw [c_29] | skip); (first | rw [decide_eq_true c_37] | rw [decide_eq_false c_37] | rw [decide_eq_false (Nat.not_lt.mpr c_37)] | rw [decide_eq_false (Nat.not_le.mpr c_37)] | rw [c_37] | skip); rfl, ht⟩) (fun q h => by cases h) d_S_isBetterThanBest_46
      · refine lv_iconst (v := 1) hx hb d_S_isBetterThanBest_41 (by decide) ?_
        refine lv_goto (tgt := 46) hx hb d_S_isBetterThanBest_42 (by decide) ?_
        exact W.zret (v := 1) hx hb hr rfl (fun t ht hW => ⟨1, rfl, by unfold m_bet; (first | rw [decide_eq_true c_21] | rw [decide_eq_false c_21] | rw [decide_eq_false (Nat.not_lt.mpr c_21)] | rw [decide_eq_false (Nat.not_le.mpr c_21)] | rw [c_21] | skip); (first | rw [decide_eq_true c_29] | rw [decide_eq_false c_29] | rw [decide_eq_false (Nat.not_lt.mpr c_29)] | rw [decide_eq_false (Nat.not_le.mpr c_29)] | rw [c_29] | skip); (first | rw [decide_eq_true c_37] | rw [decide_eq_false c_37] | rw [decide_eq_false (Nat.not_lt.mpr c_37)] | rw [decide_eq_false (Nat.not_le.mpr c_37)] | rw [c_37] | skip); rfl, ht⟩) (fun q h => by cases h) d_S_isBetterThanBest_46
set_option maxHeartbeats 4000000 in
set_option maxRecDepth 100000 in
theorem c_isDominated (l : Launch) (dC : Nat → ClassId) (dI : Nat → Nat → Nat) (ad : Nat → Nat) (ca : Nat → ClassId) (pk : Int32) (pp : Int32) (bw : Int32) (bs : Int64) (cn : Nat) (hc : cn ≤ 63) (due : Int64) (lon : Int64) (wei : Nat → Int32) (pla : Nat → Int64) (k : Nat) (op : Int64) (us : Int64) (hk : k < cn) : Met l y_S_isDominated w_S_isDominated ({ frames := 0, cells := 0, slots := 0, locals := 0 }) (kr_P [.ref (ad 1), .int (nI k), .long op, .long us] (dC, dI) vC [(ad 1, eS ad pk pp bw bs), (ad 2, eT ad (nI cn) due lon), (ad 7, eI 81 (ca 7) wei), (ad 13, eL 81 (ca 13) pla)] [(ca 7, .int), (ca 13, .long)]) (vp_Si (fun r => r = if (m_dom cn pla wei k op us) = true then 1 else 0)) 0 0 (fun _ => False) := by
  refine Met.ofW (cc := b_S_isDominated) (maxL := 10) (ret := (some .boolean)) (by decide) rfl ?_
  intro p e s m args below meth c s₁ B hml hv
  obtain ⟨rfl, hP, hK⟩ := hv
  have hx := B.exec
  have hb := B.bytes
  have hr := B.returns
  have hts := atoms_spec (ws := w_S_isDominated) B.pre
  have hlocks := B.notSynchronized
  have hown : s.vm.findClass R_S = some m.cls := findClass_of_methodNamed B.named
  have hl := lv_entry ([.ref (ad 1), .int (nI k), .long op, .long us]) (n := 10) (Nat.le_of_ble_eq_true rfl)
  rw [lg_entry_eq]
  generalize (lg_sl ([.ref (ad 1), .int (nI k), .long op, .long us]) ++ List.replicate (10 - (lg_sl ([.ref (ad 1), .int (nI k), .long op, .long us])).length) Slot.unset).toArray = ls at hl ⊢
  have hl : lv_has ls 10 [(0, .ref (ad 1)), (1, .int (nI k)), (2, .long op), (4, .long us)] := hl
  refine lv_aload_n hx hb d_S_isDominated_0 rfl (lv_at hl 0 rfl) ?_
  refine va_get (D := (dC, dI)) (ci := 2) (v := .ref (ad 2)) (C := R_S) (T := F_S) (N := 8) hx hb hts (hin_of in_S) hown hK hP 0 rfl rfl 3 (by decide) (hw_of hts mw_144) (fun _ h9 => h9) rfl d_S_isDominated_1 ?_
  refine va_get (D := (dC, dI)) (ci := 0) (v := .ref (ad 13)) (C := R_T) (T := F_T) (N := 10) hx hb hts (hin_of in_T) hown hK hP 1 rfl rfl 4 (by decide) (hw_of hts mw_108) (fun _ h9 => h9) rfl d_S_isDominated_4 ?_
  refine lv_iload_n hx hb d_S_isDominated_7 rfl (lv_at hl 1 rfl) ?_
  refine k_lald (k := k) hx hb hK hP 3 1 rfl rfl rfl (by omega) (by decide) d_S_isDominated_8 ?_
  refine lv_lload_n hx hb d_S_isDominated_9 rfl (lv_at hl 2 rfl) ?_
  refine lv_land hx hb d_S_isDominated_10 ?_
  refine lv_lstore (lv' := [(6, .long ((pla k) &&& op)), (0, .ref (ad 1)), (1, .int (nI k)), (2, .long op), (4, .long us)]) hx hb d_S_isDominated_11 hl (by decide) rfl (fun ls hl => ?_)
  refine lv_lload hx hb d_S_isDominated_13 (lv_at hl 0 rfl) ?_
  refine lv_lconst (v := 0) hx hb d_S_isDominated_15 rfl ?_
  refine k_lne (tgt := 22) hx hb d_S_isDominated_16 d_S_isDominated_17 (by decide) (fun c_16 => ?_) (fun c_16 => ?_)
  · refine lv_iconst (v := 0) hx hb d_S_isDominated_22 (by decide) ?_
    refine lv_istore (lv' := [(8, .int 0), (6, .long ((pla k) &&& op)), (0, .ref (ad 1)), (1, .int (nI k)), (2, .long op), (4, .long us)]) hx hb d_S_isDominated_23 hl (by decide) rfl (fun ls hl => ?_)
    refine k_loopR (fun jv ls => lv_has ls 10 [(0, .ref (ad 1)), (1, .int (nI k)), (2, .long op), (4, .long us), (6, .long ((pla k) &&& op)), (8, .int (nI jv))] ∧ ∀ a, a < jv → m_domP pla wei k op us a = false) cn ?_ 0 _ (Nat.zero_le _) ?_
    · intro jv ls hijv hI ihjv
      obtain ⟨hl, hno⟩ := hI
      refine lv_iload hx hb d_S_isDominated_25 (lv_at hl 5 rfl) ?_
      refine lv_aload_n hx hb d_S_isDominated_27 rfl (lv_at hl 0 rfl) ?_
      refine va_get (D := (dC, dI)) (ci := 2) (v := .ref (ad 2)) (C := R_S) (T := F_S) (N := 8) hx hb hts (hin_of in_S) hown hK hP 0 rfl rfl 3 (by decide) (hw_of hts mw_144) (fun _ h9 => h9) rfl d_S_isDominated_28 ?_
      refine va_get (D := (dC, dI)) (ci := 0) (v := .int (nI cn)) (C := R_T) (T := F_T) (N := 10) hx hb hts (hin_of in_T) hown hK hP 1 rfl rfl 5 (by decide) (hw_of hts mw_109) (fun _ h9 => h9) rfl d_S_isDominated_31 ?_
      refine k_ge (a := jv) (b := cn) (tgt := 129) hx hb rfl rfl (by omega) (by omega) d_S_isDominated_34 (by decide) (fun c_34 => ?_) (fun c_34 => ?_)
      · obtain rfl : cn = jv := by omega
        refine lv_iconst (v := 0) hx hb d_S_isDominated_129 (by decide) ?_
        exact W.zret (v := 0) hx hb hr rfl (fun t ht hW => ⟨0, rfl, by unfold m_dom; rw [decide_eq_false c_16, exn_false hno]; rfl, ht⟩) (fun q h => by cases h) d_S_isDominated_130
      · refine lv_lload hx hb d_S_isDominated_37 (lv_at hl 3 rfl) ?_
        refine lv_iload hx hb d_S_isDominated_39 (lv_at hl 5 rfl) ?_
        refine k_bit (i := jv) (tgt := 75) hx hb rfl (by omega) d_S_isDominated_41 d_S_isDominated_42 d_S_isDominated_43 d_S_isDominated_44 d_S_isDominated_45 d_S_isDominated_46 (by decide) (fun b_41 => ?_) (fun b_41 => ?_)
        · refine lv_iconst (v := 0) hx hb d_S_isDominated_75 (by decide) ?_
          refine lv_istore (lv' := [(9, .int 0), (0, .ref (ad 1)), (1, .int (nI k)), (2, .long op), (4, .long us), (6, .long ((pla k) &&& op)), (8, .int (nI jv))]) hx hb d_S_isDominated_76 hl (by decide) rfl (fun ls hl => ?_)
          refine lv_iload hx hb d_S_isDominated_78 (lv_at hl 0 rfl) ?_
          refine lv_if_eq (tgt := 123) hx hb d_S_isDominated_80 (by decide) (fun _ => ?_) (fun h => absurd (by decide) h)
          refine lv_iinc (v := nI (jv + 1)) (lv' := [(8, .int (nI (jv + 1))), (9, .int 0), (0, .ref (ad 1)), (1, .int (nI k)), (2, .long op), (4, .long us), (6, .long ((pla k) &&& op))]) hx hb d_S_isDominated_123 hl (k := 6) rfl (k_inc _) (by decide) rfl (fun ls hl => ?_)
          refine lv_goto (tgt := 25) hx hb d_S_isDominated_126 (by decide) ?_
          refine ihjv _ (by omega) ?_
          exact ⟨lv_sub hl [2, 3, 4, 5, 6, 0] rfl, lt_s hno (by unfold m_domP; (first | rw [decide_eq_true c_16] | rw [decide_eq_false c_16] | rw [decide_eq_false (Nat.not_lt.mpr c_16)] | rw [decide_eq_false (Nat.not_le.mpr c_16)] | rw [c_16] | skip); (first | rw [decide_eq_true c_34] | rw [decide_eq_false c_34] | rw [decide_eq_false (Nat.not_lt.mpr c_34)] | rw [decide_eq_false (Nat.not_le.mpr c_34)] | rw [c_34] | skip); (first | rw [decide_eq_true b_41] | rw [decide_eq_false b_41] | rw [decide_eq_false (Nat.not_lt.mpr b_41)] | rw [decide_eq_false (Nat.not_le.mpr b_41)] | rw [b_41] | skip); simp)⟩
        · refine lv_lload hx hb d_S_isDominated_49 (lv_at hl 4 rfl) ?_
          refine lv_aload_n hx hb d_S_isDominated_51 rfl (lv_at hl 0 rfl) ?_
          refine va_get (D := (dC, dI)) (ci := 2) (v := .ref (ad 2)) (C := R_S) (T := F_S) (N := 8) hx hb hts (hin_of in_S) hown hK hP 0 rfl rfl 3 (by decide) (hw_of hts mw_144) (fun _ h9 => h9) rfl d_S_isDominated_52 ?_
          refine va_get (D := (dC, dI)) (ci := 0) (v := .ref (ad 13)) (C := R_T) (T := F_T) (N := 10) hx hb hts (hin_of in_T) hown hK hP 1 rfl rfl 4 (by decide) (hw_of hts mw_108) (fun _ h9 => h9) rfl d_S_isDominated_55 ?_
          refine lv_iload hx hb d_S_isDominated_58 (lv_at hl 5 rfl) ?_
          refine k_lald (k := jv) hx hb hK hP 3 1 rfl rfl rfl (by omega) (by decide) d_S_isDominated_60 ?_
          refine lv_ldc2 hx hb hown (hw_of hts mw_280) d_S_isDominated_61 ?_
          refine lv_lxor hx hb d_S_isDominated_64 ?_
          refine lv_land hx hb d_S_isDominated_65 ?_
          refine lv_lconst (v := 0) hx hb d_S_isDominated_66 rfl ?_
          refine k_lne (tgt := 75) hx hb d_S_isDominated_67 d_S_isDominated_68 (by decide) (fun c_67 => ?_) (fun c_67 => ?_)
          · refine lv_iconst (v := 0) hx hb d_S_isDominated_75 (by decide) ?_
            refine lv_istore (lv' := [(9, .int 0), (0, .ref (ad 1)), (1, .int (nI k)), (2, .long op), (4, .long us), (6, .long ((pla k) &&& op)), (8, .int (nI jv))]) hx hb d_S_isDominated_76 hl (by decide) rfl (fun ls hl => ?_)
            refine lv_iload hx hb d_S_isDominated_78 (lv_at hl 0 rfl) ?_
            refine lv_if_eq (tgt := 123) hx hb d_S_isDominated_80 (by decide) (fun _ => ?_) (fun h => absurd (by decide) h)
            refine lv_iinc (v := nI (jv + 1)) (lv' := [(8, .int (nI (jv + 1))), (9, .int 0), (0, .ref (ad 1)), (1, .int (nI k)), (2, .long op), (4, .long us), (6, .long ((pla k) &&& op))]) hx hb d_S_isDominated_123 hl (k := 6) rfl (k_inc _) (by decide) rfl (fun ls hl => ?_)
            refine lv_goto (tgt := 25) hx hb d_S_isDominated_126 (by decide) ?_
            refine ihjv _ (by omega) ?_
            exact ⟨lv_sub hl [2, 3, 4, 5, 6, 0] rfl, lt_s hno (by unfold m_domP; (first | rw [decide_eq_true c_16] | rw [decide_eq_false c_16] | rw [decide_eq_false (Nat.not_lt.mpr c_16)] | rw [decide_eq_false (Nat.not_le.mpr c_16)] | rw [c_16] | skip); (first | rw [decide_eq_true c_34] | rw [decide_eq_false c_34] | rw [decide_eq_false (Nat.not_lt.mpr c_34)] | rw [decide_eq_false (Nat.not_le.mpr c_34)] | rw [c_34] | skip); (first | rw [decide_eq_true b_41] | rw [decide_eq_false b_41] | rw [decide_eq_false (Nat.not_lt.mpr b_41)] | rw [decide_eq_false (Nat.not_le.mpr b_41)] | rw [b_41] | skip); (first | rw [decide_eq_true c_67] | rw [decide_eq_false c_67] | rw [decide_eq_false (Nat.not_lt.mpr c_67)] | rw [decide_eq_false (Nat.not_le.mpr c_67)] | rw [c_67] | skip); simp)⟩
          · refine lv_iconst (v := 1) hx hb d_S_isDominated_71 (by decide) ?_
            refine lv_goto (tgt := 76) hx hb d_S_isDominated_72 (by decide) ?_
            refine lv_istore (lv' := [(9, .int 1), (0, .ref (ad 1)), (1, .int (nI k)), (2, .long op), (4, .long us), (6, .long ((pla k) &&& op)), (8, .int (nI jv))]) hx hb d_S_isDominated_76 hl (by decide) rfl (fun ls hl => ?_)
            refine lv_iload hx hb d_S_isDominated_78 (lv_at hl 0 rfl) ?_
            refine lv_if_eq (tgt := 123) hx hb d_S_isDominated_80 (by decide) (fun h => absurd h (by decide)) (fun _ => ?_)
            refine lv_aload_n hx hb d_S_isDominated_83 rfl (lv_at hl 1 rfl) ?_
            refine va_get (D := (dC, dI)) (ci := 2) (v := .ref (ad 7)) (C := R_S) (T := F_S) (N := 8) hx hb hts (hin_of in_S) hown hK hP 0 rfl rfl 4 (by decide) (hw_of hts mw_146) (fun _ h9 => h9) rfl d_S_isDominated_84 ?_
            refine lv_iload hx hb d_S_isDominated_87 (lv_at hl 6 rfl) ?_
            refine k_iald (k := jv) hx hb hK hP 2 0 rfl rfl rfl (by omega) (by decide) d_S_isDominated_89 ?_
            refine lv_aload_n hx hb d_S_isDominated_90 rfl (lv_at hl 1 rfl) ?_
            refine va_get (D := (dC, dI)) (ci := 2) (v := .ref (ad 7)) (C := R_S) (T := F_S) (N := 8) hx hb hts (hin_of in_S) hown hK hP 0 rfl rfl 4 (by decide) (hw_of hts mw_146) (fun _ h9 => h9) rfl d_S_isDominated_91 ?_
            refine lv_iload_n hx hb d_S_isDominated_94 rfl (lv_at hl 2 rfl) ?_
            refine k_iald (k := k) hx hb hK hP 2 0 rfl rfl rfl (by omega) (by decide) d_S_isDominated_95 ?_
            refine lv_icmp_lt (tgt := 121) hx hb d_S_isDominated_96 (by decide) (fun c_96 => ?_) (fun c_96 => ?_)
            · refine lv_iconst (v := 1) hx hb d_S_isDominated_121 (by decide) ?_
              exact W.zret (v := 1) hx hb hr rfl (fun t ht hW => ⟨1, rfl, by unfold m_dom; rw [exn_true (j := jv) (by omega) (by unfold m_domP; (first | rw [decide_eq_true c_16] | rw [decide_eq_false c_16] | rw [decide_eq_false (Nat.not_lt.mpr c_16)] | rw [decide_eq_false (Nat.not_le.mpr c_16)] | rw [c_16] | skip); (first | rw [decide_eq_true c_34] | rw [decide_eq_false c_34] | rw [decide_eq_false (Nat.not_lt.mpr c_34)] | rw [decide_eq_false (Nat.not_le.mpr c_34)] | rw [c_34] | skip); (first | rw [decide_eq_true b_41] | rw [decide_eq_false b_41] | rw [decide_eq_false (Nat.not_lt.mpr b_41)] | rw [decide_eq_false (Nat.not_le.mpr b_41)] | rw [b_41] | skip); (first | rw [decide_eq_true c_67] | rw [decide_eq_false c_67] | rw [decide_eq_false (Nat.not_lt.mpr c_67)] | rw [decide_eq_false (Nat.not_le.mpr c_67)] | rw [c_67] | skip); (first | rw [decide_eq_true c_96] | rw [decide_eq_false c_96] | rw [decide_eq_false (Nat.not_lt.mpr c_96)] | rw [decide_eq_false (Nat.not_le.mpr c_96)] | rw [c_96] | skip); rfl), Bool.or_true]; rfl, ht⟩) (fun q h => by cases h) d_S_isDominated_122
            · refine lv_aload_n hx hb d_S_isDominated_99 rfl (lv_at hl 1 rfl) ?_
              refine va_get (D := (dC, dI)) (ci := 2) (v := .ref (ad 7)) (C := R_S) (T := F_S) (N := 8) hx hb hts (hin_of in_S) hown hK hP 0 rfl rfl 4 (by decide) (hw_of hts mw_146) (fun _ h9 => h9) rfl d_S_isDominated_100 ?_
              refine lv_iload hx hb d_S_isDominated_103 (lv_at hl 6 rfl) ?_
              refine k_iald (k := jv) hx hb hK hP 2 0 rfl rfl rfl (by omega) (by decide) d_S_isDominated_105 ?_
              refine lv_aload_n hx hb d_S_isDominated_106 rfl (lv_at hl 1 rfl) ?_
              refine va_get (D := (dC, dI)) (ci := 2) (v := .ref (ad 7)) (C := R_S) (T := F_S) (N := 8) hx hb hts (hin_of in_S) hown hK hP 0 rfl rfl 4 (by decide) (hw_of hts mw_146) (fun _ h9 => h9) rfl d_S_isDominated_107 ?_
              refine lv_iload_n hx hb d_S_isDominated_110 rfl (lv_at hl 2 rfl) ?_
              refine k_iald (k := k) hx hb hK hP 2 0 rfl rfl rfl (by omega) (by decide) d_S_isDominated_111 ?_
              refine lv_icmp_ne (tgt := 123) hx hb d_S_isDominated_112 (by decide) (fun c_112 => ?_) (fun c_112 => ?_)
              · refine lv_iinc (v := nI (jv + 1)) (lv' := [(8, .int (nI (jv + 1))), (9, .int 1), (0, .ref (ad 1)), (1, .int (nI k)), (2, .long op), (4, .long us), (6, .long ((pla k) &&& op))]) hx hb d_S_isDominated_123 hl (k := 6) rfl (k_inc _) (by decide) rfl (fun ls hl => ?_)
                refine lv_goto (tgt := 25) hx hb d_S_isDominated_126 (by decide) ?_
                refine ihjv _ (by omega) ?_
                exact ⟨lv_sub hl [2, 3, 4, 5, 6, 0] rfl, lt_s hno (by unfold m_domP; (first | rw [decide_eq_true c_16] | rw [decide_eq_false c_16] | rw [decide_eq_false (Nat.not_lt.mpr c_16)] | rw [decide_eq_false (Nat.not_le.mpr c_16)] | rw [c_16] | skip); (first | rw [decide_eq_true c_34] | rw [decide_eq_false c_34] | rw [decide_eq_false (Nat.not_lt.mpr c_34)] | rw [decide_eq_false (Nat.not_le.mpr c_34)] | rw [c_34] | skip); (first | rw [decide_eq_true b_41] | rw [decide_eq_false b_41] | rw [decide_eq_false (Nat.not_lt.mpr b_41)] | rw [decide_eq_false (Nat.not_le.mpr b_41)] | rw [b_41] | skip); (first | rw [decide_eq_true c_67] | rw [decide_eq_false c_67] | rw [decide_eq_false (Nat.not_lt.mpr c_67)] | rw [decide_eq_false (Nat.not_le.mpr c_67)] | rw [c_67] | skip); (first | rw [decide_eq_true c_96] | rw [decide_eq_false c_96] | rw [decide_eq_false (Nat.not_lt.mpr c_96)] | rw [decide_eq_false (Nat.not_le.mpr c_96)] | rw [c_96] | skip); (first | rw [decide_eq_true c_112] | rw [decide_eq_false c_112] | rw [decide_eq_false (Nat.not_lt.mpr c_112)] | rw [decide_eq_false (Nat.not_le.mpr c_112)] | rw [c_112] | skip); simp)⟩
              · refine lv_iload hx hb d_S_isDominated_115 (lv_at hl 6 rfl) ?_
                refine lv_iload_n hx hb d_S_isDominated_117 rfl (lv_at hl 2 rfl) ?_
                refine k_ge (a := jv) (b := k) (tgt := 123) hx hb rfl rfl (by omega) (by omega) d_S_isDominated_118 (by decide) (fun c_118 => ?_) (fun c_118 => ?_)
                · refine lv_iinc (v := nI (jv + 1)) (lv' := [(8, .int (nI (jv + 1))), (9, .int 1), (0, .ref (ad 1)), (1, .int (nI k)), (2, .long op), (4, .long us), (6, .long ((pla k) &&& op))]) hx hb d_S_isDominated_123 hl (k := 6) rfl (k_inc _) (by decide) rfl (fun ls hl => ?_)
                  refine lv_goto (tgt := 25) hx hb d_S_isDominated_126 (by decide) ?_
                  refine ihjv _ (by omega) ?_
                  exact ⟨lv_sub hl [2, 3, 4, 5, 6, 0] rfl, lt_s hno (by unfold m_domP; (first | rw [decide_eq_true c_16] | rw [decide_eq_false c_16] | rw [decide_eq_false (Nat.not_lt.mpr c_16)] | rw [decide_eq_false (Nat.not_le.mpr c_16)] | rw [c_16] | skip); (first | rw [decide_eq_true c_34] | rw [decide_eq_false c_34] | rw [decide_eq_false (Nat.not_lt.mpr c_34)] | rw [decide_eq_false (Nat.not_le.mpr c_34)] | rw [c_34] | skip); (first | rw [decide_eq_true b_41] | rw [decide_eq_false b_41] | rw [decide_eq_false (Nat.not_lt.mpr b_41)] | rw [decide_eq_false (Nat.not_le.mpr b_41)] | rw [b_41] | skip); (first | rw [decide_eq_true c_67] | rw [decide_eq_false c_67] | rw [decide_eq_false (Nat.not_lt.mpr c_67)] | rw [decide_eq_false (Nat.not_le.mpr c_67)] | rw [c_67] | skip); (first | rw [decide_eq_true c_96] | rw [decide_eq_false c_96] | rw [decide_eq_false (Nat.not_lt.mpr c_96)] | rw [decide_eq_false (Nat.not_le.mpr c_96)] | rw [c_96] | skip); (first | rw [decide_eq_true c_112] | rw [decide_eq_false c_112] | rw [decide_eq_false (Nat.not_lt.mpr c_112)] | rw [decide_eq_false (Nat.not_le.mpr c_112)] | rw [c_112] | skip); (first | rw [decide_eq_true c_118] | rw [decide_eq_false c_118] | rw [decide_eq_false (Nat.not_lt.mpr c_118)] | rw [decide_eq_false (Nat.not_le.mpr c_118)] | rw [c_118] | skip); simp)⟩
                · refine lv_iconst (v := 1) hx hb d_S_isDominated_121 (by decide) ?_
                  exact W.zret (v := 1) hx hb hr rfl (fun t ht hW => ⟨1, rfl, by unfold m_dom; rw [exn_true (j := jv) (by omega) (by unfold m_domP; (first | rw [decide_eq_true c_16] | rw [decide_eq_false c_16] | rw [decide_eq_false (Nat.not_lt.mpr c_16)] | rw [decide_eq_false (Nat.not_le.mpr c_16)] | rw [c_16] | skip); (first | rw [decide_eq_true c_34] | rw [decide_eq_false c_34] | rw [decide_eq_false (Nat.not_lt.mpr c_34)] | rw [decide_eq_false (Nat.not_le.mpr c_34)] | rw [c_34] | skip); (first | rw [decide_eq_true b_41] | rw [decide_eq_false b_41] | rw [decide_eq_false (Nat.not_lt.mpr b_41)] | rw [decide_eq_false (Nat.not_le.mpr b_41)] | rw [b_41] | skip); (first | rw [decide_eq_true c_67] | rw [decide_eq_false c_67] | rw [decide_eq_false (Nat.not_lt.mpr c_67)] | rw [decide_eq_false (Nat.not_le.mpr c_67)] | rw [c_67] | skip); (first | rw [decide_eq_true c_96] | rw [decide_eq_false c_96] | rw [decide_eq_false (Nat.not_lt.mpr c_96)] | rw [decide_eq_false (Nat.not_le.mpr c_96)] | rw [c_96] | skip); (first | rw [decide_eq_true c_112] | rw [decide_eq_false c_112] | rw [decide_eq_false (Nat.not_lt.mpr c_112)] | rw [decide_eq_false (Nat.not_le.mpr c_112)] | rw [c_112] | skip); (first | rw [decide_eq_true c_118] | rw [decide_eq_false c_118] | rw [decide_eq_false (Nat.not_lt.mpr c_118)] | rw [decide_eq_false (Nat.not_le.mpr c_118)] | rw [c_118] | skip); rfl), Bool.or_true]; rfl, ht⟩) (fun q h => by cases h) d_S_isDominated_122
    · have hdone : True := trivial
      have e_1 : nI 0 = 0 := rfl
      exact ⟨by (try rw [e_1]); exact lv_sub hl [2, 3, 4, 5, 1, 0] rfl, lt_0⟩
  · refine lv_iconst (v := 1) hx hb d_S_isDominated_20 (by decide) ?_
    exact W.zret (v := 1) hx hb hr rfl (fun t ht hW => ⟨1, rfl, by unfold m_dom; rw [decide_eq_true c_16]; rfl, ht⟩) (fun q h => by cases h) d_S_isDominated_21
set_option maxHeartbeats 4000000 in
set_option maxRecDepth 100000 in
theorem c_withoutDominated (l : Launch) (dC : Nat → ClassId) (dI : Nat → Nat → Nat) (ad : Nat → Nat) (ca : Nat → ClassId) (pk : Int32) (pp : Int32) (bw : Int32) (bs : Int64) (cn : Nat) (hc : cn ≤ 63) (due : Int64) (lon : Int64) (wei : Nat → Int32) (pla : Nat → Int64) (op : Int64) (fr : Int64) : Met l y_S_withoutDominated w_S_withoutDominated ({ frames := 1, cells := 0, slots := 0, locals := 29 }) (kr_P [.ref (ad 1), .long op, .long fr] (dC, dI) vC [(ad 1, eS ad pk pp bw bs), (ad 2, eT ad (nI cn) due lon), (ad 7, eI 81 (ca 7) wei), (ad 13, eL 81 (ca 13) pla)] [(ca 7, .int), (ca 13, .long)]) (vp_Sl (fun r => r = m_wd cn pla wei op fr)) 0 0 (fun _ => False) := by
  refine Met.ofW (cc := b_S_withoutDominated) (maxL := 8) (ret := (some .long)) (by decide) rfl ?_
  intro p e s m args below meth c s₁ B hml hv
  obtain ⟨rfl, hP, hK⟩ := hv
  have hx := B.exec
  have hb := B.bytes
  have hr := B.returns
  have hts := atoms_spec (ws := w_S_withoutDominated) B.pre
  have hlocks := B.notSynchronized
  have hown : s.vm.findClass R_S = some m.cls := findClass_of_methodNamed B.named
  have hl := lv_entry ([.ref (ad 1), .long op, .long fr]) (n := 8) (Nat.le_of_ble_eq_true rfl)
  rw [lg_entry_eq]
  generalize (lg_sl ([.ref (ad 1), .long op, .long fr]) ++ List.replicate (8 - (lg_sl ([.ref (ad 1), .long op, .long fr])).length) Slot.unset).toArray = ls at hl ⊢
  have hl : lv_has ls 8 [(0, .ref (ad 1)), (1, .long op), (3, .long fr)] := hl
  refine lv_lload_n hx hb d_S_withoutDominated_0 rfl (lv_at hl 2 rfl) ?_
  refine lv_lstore (lv' := [(5, .long fr), (0, .ref (ad 1)), (1, .long op), (3, .long fr)]) hx hb d_S_withoutDominated_1 hl (by decide) rfl (fun ls hl => ?_)
  refine lv_iconst (v := 0) hx hb d_S_withoutDominated_3 (by decide) ?_
  refine lv_istore (lv' := [(7, .int 0), (5, .long fr), (0, .ref (ad 1)), (1, .long op), (3, .long fr)]) hx hb d_S_withoutDominated_4 hl (by decide) rfl (fun ls hl => ?_)
  refine k_loopR (fun iv ls => lv_has ls 8 [(0, .ref (ad 1)), (1, .long op), (3, .long fr), (5, .long (fo (m_wdf cn pla wei op fr) iv fr)), (7, .int (nI iv))] ∧ True) cn ?_ 0 _ (Nat.zero_le _) ?_
  · intro iv ls hiiv hI ihiv
    obtain ⟨hl, -⟩ := hI
    refine lv_iload hx hb d_S_withoutDominated_6 (lv_at hl 4 rfl) ?_
    refine lv_aload_n hx hb d_S_withoutDominated_8 rfl (lv_at hl 0 rfl) ?_
    refine va_get (D := (dC, dI)) (ci := 2) (v := .ref (ad 2)) (C := R_S) (T := F_S) (N := 8) hx hb hts (hin_of in_S) hown hK hP 0 rfl rfl 3 (by decide) (hw_of hts mw_144) (fun _ h9 => h9) rfl d_S_withoutDominated_9 ?_
    refine va_get (D := (dC, dI)) (ci := 0) (v := .int (nI cn)) (C := R_T) (T := F_T) (N := 10) hx hb hts (hin_of in_T) hown hK hP 1 rfl rfl 5 (by decide) (hw_of hts mw_109) (fun _ h9 => h9) rfl d_S_withoutDominated_12 ?_
    refine k_ge (a := iv) (b := cn) (tgt := 60) hx hb rfl rfl (by omega) (by omega) d_S_withoutDominated_15 (by decide) (fun c_15 => ?_) (fun c_15 => ?_)
    · obtain rfl : cn = iv := by omega
      refine lv_lload hx hb d_S_withoutDominated_60 (lv_at hl 3 rfl) ?_
      exact W.lret (v := fo (m_wdf cn pla wei op fr) cn fr) hx hb hr (fun t ht hW => ⟨fo (m_wdf cn pla wei op fr) cn fr, rfl, rfl, ht⟩) (fun q h => by cases h) d_S_withoutDominated_62
    · refine lv_lload_n hx hb d_S_withoutDominated_18 rfl (lv_at hl 2 rfl) ?_
      refine lv_iload hx hb d_S_withoutDominated_19 (lv_at hl 4 rfl) ?_
      refine k_bit (i := iv) (tgt := 54) hx hb rfl (by omega) d_S_withoutDominated_21 d_S_withoutDominated_22 d_S_withoutDominated_23 d_S_withoutDominated_24 d_S_withoutDominated_25 d_S_withoutDominated_26 (by decide) (fun b_21 => ?_) (fun b_21 => ?_)
      · refine lv_iinc (v := nI (iv + 1)) (lv' := [(7, .int (nI (iv + 1))), (0, .ref (ad 1)), (1, .long op), (3, .long fr), (5, .long (fo (m_wdf cn pla wei op fr) iv fr))]) hx hb d_S_withoutDominated_54 hl (k := 4) rfl (k_inc _) (by decide) rfl (fun ls hl => ?_)
        refine lv_goto (tgt := 6) hx hb d_S_withoutDominated_57 (by decide) ?_
        refine ihiv _ (by omega) ?_
        have e_1 : fo (m_wdf cn pla wei op fr) (iv + 1) fr = fo (m_wdf cn pla wei op fr) iv fr := by simp [fo_s, m_wdf, c_15, b_21]
        exact ⟨by (try rw [e_1]); exact lv_sub hl [1, 2, 3, 4, 0] rfl, trivial⟩
      · refine lv_aload_n hx hb d_S_withoutDominated_29 rfl (lv_at hl 0 rfl) ?_
        refine lv_iload hx hb d_S_withoutDominated_30 (lv_at hl 4 rfl) ?_
        refine lv_lload_n hx hb d_S_withoutDominated_32 rfl (lv_at hl 1 rfl) ?_
        refine lv_lload hx hb d_S_withoutDominated_33 (lv_at hl 3 rfl) ?_
        have hPc := hP.sub (ws' := [(ad 1, eS ad pk pp bw bs), (ad 2, eT ad (nI cn) due lon), (ad 7, eI 81 (ca 7) wei), (ad 13, eL 81 (ca 13) pla)]) [0, 1, 2, 3] rfl
        have hKc := hK.sub (tys' := [(ca 7, .int), (ca 13, .long)]) [0, 1] rfl
        refine vp_callSi (W.runV (As := [.int (nI iv), .long op, .long (fo (m_wdf cn pla wei op fr) iv fr)]) (rest := []) ⟨hx, hb, hml, hown, hts⟩ (c_isDominated l dC dI ad ca pk pp bw bs cn hc due lon wei pla iv op (fo (m_wdf cn pla wei op fr) iv fr) (by omega)) (cwV 3 hts (gd_V mw_276 mw_278 mw_14 mw_41 mw_279) rfl rfl rfl (by decide +kernel) ⟨Nat.le_of_ble_eq_true rfl, Nat.le_of_ble_eq_true rfl⟩) (kr_V (q0 := 0) (ci := 2) hKc hPc rfl rfl) rfl rfl hl.1 rfl (lv_room (Nat.le_of_ble_eq_true rfl)) d_S_withoutDominated_35 ⟨Nat.zero_le _, Nat.zero_le _⟩) (fun r hq => ?_)
        subst hq
        refine k_beq (b := (m_dom cn pla wei iv op (fo (m_wdf cn pla wei op fr) iv fr))) (tgt := 54) hx hb d_S_withoutDominated_38 (by decide) (fun c_38 => ?_) (fun c_38 => ?_)
        · refine lv_iinc (v := nI (iv + 1)) (lv' := [(7, .int (nI (iv + 1))), (0, .ref (ad 1)), (1, .long op), (3, .long fr), (5, .long (fo (m_wdf cn pla wei op fr) iv fr))]) hx hb d_S_withoutDominated_54 hl (k := 4) rfl (k_inc _) (by decide) rfl (fun ls hl => ?_)
          refine lv_goto (tgt := 6) hx hb d_S_withoutDominated_57 (by decide) ?_
          refine ihiv _ (by omega) ?_
          have e_2 : fo (m_wdf cn pla wei op fr) (iv + 1) fr = fo (m_wdf cn pla wei op fr) iv fr := by simp [fo_s, m_wdf, c_15, b_21, c_38]
          exact ⟨by (try rw [e_2]); exact lv_sub hl [1, 2, 3, 4, 0] rfl, trivial⟩
        · refine lv_lload hx hb d_S_withoutDominated_41 (lv_at hl 3 rfl) ?_
          refine lv_lconst (v := 1) hx hb d_S_withoutDominated_43 rfl ?_
          refine lv_iload hx hb d_S_withoutDominated_44 (lv_at hl 4 rfl) ?_
          refine lv_lshl (v := zo iv) hx hb d_S_withoutDominated_46 rfl ?_
          refine lv_ldc2 hx hb hown (hw_of hts mw_280) d_S_withoutDominated_47 ?_
          refine lv_lxor hx hb d_S_withoutDominated_50 ?_
          refine lv_land hx hb d_S_withoutDominated_51 ?_
          refine lv_lstore (lv' := [(5, .long ((fo (m_wdf cn pla wei op fr) iv fr) &&& ((zo iv) ^^^ (-1)))), (0, .ref (ad 1)), (1, .long op), (3, .long fr), (7, .int (nI iv))]) hx hb d_S_withoutDominated_52 hl (by decide) rfl (fun ls hl => ?_)
          refine lv_iinc (v := nI (iv + 1)) (lv' := [(7, .int (nI (iv + 1))), (5, .long ((fo (m_wdf cn pla wei op fr) iv fr) &&& ((zo iv) ^^^ (-1)))), (0, .ref (ad 1)), (1, .long op), (3, .long fr)]) hx hb d_S_withoutDominated_54 hl (k := 4) rfl (k_inc _) (by decide) rfl (fun ls hl => ?_)
          refine lv_goto (tgt := 6) hx hb d_S_withoutDominated_57 (by decide) ?_
          refine ihiv _ (by omega) ?_
          have e_3 : fo (m_wdf cn pla wei op fr) (iv + 1) fr = (fo (m_wdf cn pla wei op fr) iv fr) &&& ((zo iv) ^^^ (-1)) := by simp [fo_s, m_wdf, c_15, b_21, c_38]
          exact ⟨by (try rw [e_3]); exact lv_sub hl [2, 3, 4, 1, 0] rfl, trivial⟩
  · have hdone : True := trivial
    have e_4 : fo (m_wdf cn pla wei op fr) 0 fr = fr := rfl
    have e_5 : nI 0 = 0 := rfl
    exact ⟨by (try rw [e_4]); (try rw [e_5]); exact lv_sub hl [2, 3, 4, 1, 0] rfl, trivial⟩
set_option maxHeartbeats 4000000 in
set_option maxRecDepth 100000 in
theorem c_lightestOf (l : Launch) (dC : Nat → ClassId) (dI : Nat → Nat → Nat) (ad : Nat → Nat) (ca : Nat → ClassId) (pk : Int32) (pp : Int32) (bw : Int32) (bs : Int64) (cn : Nat) (hc : cn ≤ 63) (due : Int64) (lon : Int64) (wei : Nat → Int32) (sm : Int64) : Met l y_S_lightestOf w_S_lightestOf ({ frames := 1, cells := 0, slots := 0, locals := 30 }) (kr_P [.ref (ad 1), .long sm] (dC, dI) vC [(ad 1, eS ad pk pp bw bs), (ad 2, eT ad (nI cn) due lon), (ad 7, eI 81 (ca 7) wei)] [(ca 7, .int)]) (vp_Si (fun r => r = m_light cn wei sm)) 0 0 (fun _ => False) := by
  refine Met.ofW (cc := b_S_lightestOf) (maxL := 5) (ret := (some .int)) (by decide) rfl ?_
  intro p e s m args below meth c s₁ B hml hv
  obtain ⟨rfl, hP, hK⟩ := hv
  have hx := B.exec
  have hb := B.bytes
  have hr := B.returns
  have hts := atoms_spec (ws := w_S_lightestOf) B.pre
  have hlocks := B.notSynchronized
  have hown : s.vm.findClass R_S = some m.cls := findClass_of_methodNamed B.named
  have hl := lv_entry ([.ref (ad 1), .long sm]) (n := 5) (Nat.le_of_ble_eq_true rfl)
  rw [lg_entry_eq]
  generalize (lg_sl ([.ref (ad 1), .long sm]) ++ List.replicate (5 - (lg_sl ([.ref (ad 1), .long sm])).length) Slot.unset).toArray = ls at hl ⊢
  have hl : lv_has ls 5 [(0, .ref (ad 1)), (1, .long sm)] := hl
  refine lv_ldc hx hb hown (hw_of hts mw_259) d_S_lightestOf_0 ?_
  refine lv_istore_n (lv' := [(3, .int 1000000), (0, .ref (ad 1)), (1, .long sm)]) hx hb d_S_lightestOf_2 rfl hl (by decide) rfl (fun ls hl => ?_)
  refine lv_iconst (v := 0) hx hb d_S_lightestOf_3 (by decide) ?_
  refine lv_istore (lv' := [(4, .int 0), (3, .int 1000000), (0, .ref (ad 1)), (1, .long sm)]) hx hb d_S_lightestOf_4 hl (by decide) rfl (fun ls hl => ?_)
  refine k_loopR (fun iv ls => lv_has ls 5 [(0, .ref (ad 1)), (1, .long sm), (3, .int (fo (m_lightf wei sm) iv 1000000)), (4, .int (nI iv))] ∧ True) cn ?_ 0 _ (Nat.zero_le _) ?_
  · intro iv ls hiiv hI ihiv
    obtain ⟨hl, -⟩ := hI
    refine lv_iload hx hb d_S_lightestOf_6 (lv_at hl 3 rfl) ?_
    refine lv_aload_n hx hb d_S_lightestOf_8 rfl (lv_at hl 0 rfl) ?_
    refine va_get (D := (dC, dI)) (ci := 2) (v := .ref (ad 2)) (C := R_S) (T := F_S) (N := 8) hx hb hts (hin_of in_S) hown hK hP 0 rfl rfl 3 (by decide) (hw_of hts mw_144) (fun _ h9 => h9) rfl d_S_lightestOf_9 ?_
    refine va_get (D := (dC, dI)) (ci := 0) (v := .int (nI cn)) (C := R_T) (T := F_T) (N := 10) hx hb hts (hin_of in_T) hown hK hP 1 rfl rfl 5 (by decide) (hw_of hts mw_109) (fun _ h9 => h9) rfl d_S_lightestOf_12 ?_
    refine k_ge (a := iv) (b := cn) (tgt := 47) hx hb rfl rfl (by omega) (by omega) d_S_lightestOf_15 (by decide) (fun c_15 => ?_) (fun c_15 => ?_)
    · obtain rfl : cn = iv := by omega
      refine lv_iload_n hx hb d_S_lightestOf_47 rfl (lv_at hl 2 rfl) ?_
      exact W.iret (v := fo (m_lightf wei sm) cn 1000000) hx hb hr (fun t ht hW => ⟨fo (m_lightf wei sm) cn 1000000, rfl, rfl, ht⟩) (fun q h => by cases h) d_S_lightestOf_48
    · refine lv_lload_n hx hb d_S_lightestOf_18 rfl (lv_at hl 1 rfl) ?_
      refine lv_iload hx hb d_S_lightestOf_19 (lv_at hl 3 rfl) ?_
      refine k_bit (i := iv) (tgt := 41) hx hb rfl (by omega) d_S_lightestOf_21 d_S_lightestOf_22 d_S_lightestOf_23 d_S_lightestOf_24 d_S_lightestOf_25 d_S_lightestOf_26 (by decide) (fun b_21 => ?_) (fun b_21 => ?_)
      · refine lv_iinc (v := nI (iv + 1)) (lv' := [(4, .int (nI (iv + 1))), (0, .ref (ad 1)), (1, .long sm), (3, .int (fo (m_lightf wei sm) iv 1000000))]) hx hb d_S_lightestOf_41 hl (k := 3) rfl (k_inc _) (by decide) rfl (fun ls hl => ?_)
        refine lv_goto (tgt := 6) hx hb d_S_lightestOf_44 (by decide) ?_
        refine ihiv _ (by omega) ?_
        have e_1 : fo (m_lightf wei sm) (iv + 1) 1000000 = fo (m_lightf wei sm) iv 1000000 := by simp [fo_s, m_lightf, c_15, b_21]
        exact ⟨by (try rw [e_1]); exact lv_sub hl [1, 2, 3, 0] rfl, trivial⟩
      · refine lv_iload_n hx hb d_S_lightestOf_29 rfl (lv_at hl 2 rfl) ?_
        refine lv_aload_n hx hb d_S_lightestOf_30 rfl (lv_at hl 0 rfl) ?_
        refine va_get (D := (dC, dI)) (ci := 2) (v := .ref (ad 7)) (C := R_S) (T := F_S) (N := 8) hx hb hts (hin_of in_S) hown hK hP 0 rfl rfl 4 (by decide) (hw_of hts mw_146) (fun _ h9 => h9) rfl d_S_lightestOf_31 ?_
        refine lv_iload hx hb d_S_lightestOf_34 (lv_at hl 3 rfl) ?_
        refine k_iald (k := iv) hx hb hK hP 2 0 rfl rfl rfl (by omega) (by decide) d_S_lightestOf_36 ?_
        refine va_mmin hx hb (by rw [hml]; exact hl.1.symm) hown (hw_of hts mw_289) (hw_of hts mw_290) (hw_of hts mw_50) (hw_of hts mw_291) (Nat.le_of_ble_eq_true rfl) (Nat.le_of_ble_eq_true rfl) (Nat.zero_le _) (Nat.zero_le _) d_S_lightestOf_37 ?_
        refine lv_istore_n (lv' := [(3, .int (if (wei iv) < (fo (m_lightf wei sm) iv 1000000) then (wei iv) else (fo (m_lightf wei sm) iv 1000000))), (0, .ref (ad 1)), (1, .long sm), (4, .int (nI iv))]) hx hb d_S_lightestOf_40 rfl hl (by decide) rfl (fun ls hl => ?_)
        refine lv_iinc (v := nI (iv + 1)) (lv' := [(4, .int (nI (iv + 1))), (3, .int (if (wei iv) < (fo (m_lightf wei sm) iv 1000000) then (wei iv) else (fo (m_lightf wei sm) iv 1000000))), (0, .ref (ad 1)), (1, .long sm)]) hx hb d_S_lightestOf_41 hl (k := 3) rfl (k_inc _) (by decide) rfl (fun ls hl => ?_)
        refine lv_goto (tgt := 6) hx hb d_S_lightestOf_44 (by decide) ?_
        refine ihiv _ (by omega) ?_
        have e_2 : fo (m_lightf wei sm) (iv + 1) 1000000 = if (wei iv) < (fo (m_lightf wei sm) iv 1000000) then (wei iv) else (fo (m_lightf wei sm) iv 1000000) := by simp [fo_s, m_lightf, c_15, b_21]
        exact ⟨by (try rw [e_2]); exact lv_sub hl [2, 3, 1, 0] rfl, trivial⟩
  · have hdone : True := trivial
    have e_3 : fo (m_lightf wei sm) 0 1000000 = 1000000 := rfl
    have e_4 : nI 0 = 0 := rfl
    exact ⟨by (try rw [e_3]); (try rw [e_4]); exact lv_sub hl [2, 3, 1, 0] rfl, trivial⟩
set_option maxHeartbeats 4000000 in
set_option maxRecDepth 100000 in
theorem c_weightToCome (l : Launch) (dC : Nat → ClassId) (dI : Nat → Nat → Nat) (ad : Nat → Nat) (ca : Nat → ClassId) (pk : Int32) (pp : Int32) (bw : Int32) (bs : Int64) (cn : Nat) (hc : cn ≤ 63) (due : Int64) (lon : Int64) (wei : Nat → Int32) (ser : Nat → Int64) (op : Int64) (us : Int64) : Met l y_S_weightToCome w_S_weightToCome ({ frames := 2, cells := 0, slots := 0, locals := 60 }) (kr_P [.ref (ad 1), .long op, .long us] (dC, dI) vC [(ad 1, eS ad pk pp bw bs), (ad 2, eT ad (nI cn) due lon), (ad 7, eI 81 (ca 7) wei), (ad 8, eL 32 (ca 8) ser)] [(ca 7, .int), (ca 8, .long)]) (vp_Si (fun r => r = (m_wtc cn wei ser op us).2)) 0 0 (fun _ => False) := by
  refine Met.ofW (cc := b_S_weightToCome) (maxL := 11) (ret := (some .int)) (by decide) rfl ?_
  intro p e s m args below meth c s₁ B hml hv
  obtain ⟨rfl, hP, hK⟩ := hv
  have hx := B.exec
  have hb := B.bytes
  have hr := B.returns
  have hts := atoms_spec (ws := w_S_weightToCome) B.pre
  have hlocks := B.notSynchronized
  have hown : s.vm.findClass R_S = some m.cls := findClass_of_methodNamed B.named
  have hl := lv_entry ([.ref (ad 1), .long op, .long us]) (n := 11) (Nat.le_of_ble_eq_true rfl)
  rw [lg_entry_eq]
  generalize (lg_sl ([.ref (ad 1), .long op, .long us]) ++ List.replicate (11 - (lg_sl ([.ref (ad 1), .long op, .long us])).length) Slot.unset).toArray = ls at hl ⊢
  have hl : lv_has ls 11 [(0, .ref (ad 1)), (1, .long op), (3, .long us)] := hl
  refine lv_lconst (v := 0) hx hb d_S_weightToCome_0 rfl ?_
  refine lv_lstore (lv' := [(5, .long 0), (0, .ref (ad 1)), (1, .long op), (3, .long us)]) hx hb d_S_weightToCome_1 hl (by decide) rfl (fun ls hl => ?_)
  refine lv_iconst (v := 0) hx hb d_S_weightToCome_3 (by decide) ?_
  refine lv_istore (lv' := [(7, .int 0), (5, .long 0), (0, .ref (ad 1)), (1, .long op), (3, .long us)]) hx hb d_S_weightToCome_4 hl (by decide) rfl (fun ls hl => ?_)
  refine lv_iconst (v := 0) hx hb d_S_weightToCome_6 (by decide) ?_
  refine lv_istore (lv' := [(8, .int 0), (7, .int 0), (5, .long 0), (0, .ref (ad 1)), (1, .long op), (3, .long us)]) hx hb d_S_weightToCome_7 hl (by decide) rfl (fun ls hl => ?_)
  refine k_loopR (fun iv ls => lv_has ls 11 [(0, .ref (ad 1)), (1, .long op), (3, .long us), (5, .long ((fo (m_wtcf cn wei ser op us) iv (0, 0)).1)), (7, .int ((fo (m_wtcf cn wei ser op us) iv (0, 0)).2)), (8, .int (nI iv))] ∧ True) 32 ?_ 0 _ (Nat.zero_le _) ?_
  · intro iv ls hiiv hI ihiv
    obtain ⟨hl, -⟩ := hI
    refine lv_iload hx hb d_S_weightToCome_9 (lv_at hl 5 rfl) ?_
    refine lv_bipush (v := 32) hx hb d_S_weightToCome_11 (by decide) ?_
    refine k_ge (a := iv) (b := 32) (tgt := 72) hx hb rfl rfl (by omega) (by omega) d_S_weightToCome_13 (by decide) (fun c_13 => ?_) (fun c_13 => ?_)
    · obtain rfl : 32 = iv := by omega
      refine lv_iload hx hb d_S_weightToCome_72 (lv_at hl 4 rfl) ?_
      exact W.iret (v := (fo (m_wtcf cn wei ser op us) 32 (0, 0)).2) hx hb hr (fun t ht hW => ⟨(fo (m_wtcf cn wei ser op us) 32 (0, 0)).2, rfl, rfl, ht⟩) (fun q h => by cases h) d_S_weightToCome_74
    · refine lv_aload_n hx hb d_S_weightToCome_16 rfl (lv_at hl 0 rfl) ?_
      refine va_get (D := (dC, dI)) (ci := 2) (v := .ref (ad 8)) (C := R_S) (T := F_S) (N := 8) hx hb hts (hin_of in_S) hown hK hP 0 rfl rfl 5 (by decide) (hw_of hts mw_147) (fun _ h9 => h9) rfl d_S_weightToCome_17 ?_
      refine lv_iload hx hb d_S_weightToCome_20 (lv_at hl 5 rfl) ?_
      refine k_lald (k := iv) hx hb hK hP 3 1 rfl rfl rfl (by omega) (by decide) d_S_weightToCome_22 ?_
      refine lv_lload_n hx hb d_S_weightToCome_23 rfl (lv_at hl 2 rfl) ?_
      refine lv_land hx hb d_S_weightToCome_24 ?_
      refine lv_lstore (lv' := [(9, .long ((ser iv) &&& us)), (0, .ref (ad 1)), (1, .long op), (3, .long us), (5, .long ((fo (m_wtcf cn wei ser op us) iv (0, 0)).1)), (7, .int ((fo (m_wtcf cn wei ser op us) iv (0, 0)).2)), (8, .int (nI iv))]) hx hb d_S_weightToCome_25 hl (by decide) rfl (fun ls hl => ?_)
      refine lv_lload_n hx hb d_S_weightToCome_27 rfl (lv_at hl 2 rfl) ?_
      refine lv_iload hx hb d_S_weightToCome_28 (lv_at hl 6 rfl) ?_
      refine k_bit (i := iv) (tgt := 66) hx hb rfl (by omega) d_S_weightToCome_30 d_S_weightToCome_31 d_S_weightToCome_32 d_S_weightToCome_33 d_S_weightToCome_34 d_S_weightToCome_35 (by decide) (fun b_30 => ?_) (fun b_30 => ?_)
      · refine lv_iinc (v := nI (iv + 1)) (lv' := [(8, .int (nI (iv + 1))), (9, .long ((ser iv) &&& us)), (0, .ref (ad 1)), (1, .long op), (3, .long us), (5, .long ((fo (m_wtcf cn wei ser op us) iv (0, 0)).1)), (7, .int ((fo (m_wtcf cn wei ser op us) iv (0, 0)).2))]) hx hb d_S_weightToCome_66 hl (k := 6) rfl (k_inc _) (by decide) rfl (fun ls hl => ?_)
        refine lv_goto (tgt := 9) hx hb d_S_weightToCome_69 (by decide) ?_
        refine ihiv _ (by omega) ?_
        have e_1 : (fo (m_wtcf cn wei ser op us) (iv + 1) (0, 0)).1 = (fo (m_wtcf cn wei ser op us) iv (0, 0)).1 := by simp [fo_s, m_wtcf, c_13, b_30]
        have e_2 : (fo (m_wtcf cn wei ser op us) (iv + 1) (0, 0)).2 = (fo (m_wtcf cn wei ser op us) iv (0, 0)).2 := by simp [fo_s, m_wtcf, c_13, b_30]
        exact ⟨by (try rw [e_1]); (try rw [e_2]); exact lv_sub hl [2, 3, 4, 5, 6, 0] rfl, trivial⟩
      · refine lv_lload hx hb d_S_weightToCome_38 (lv_at hl 0 rfl) ?_
        refine lv_lload hx hb d_S_weightToCome_40 (lv_at hl 4 rfl) ?_
        refine lv_land hx hb d_S_weightToCome_42 ?_
        refine lv_lconst (v := 0) hx hb d_S_weightToCome_43 rfl ?_
        refine k_lne (tgt := 66) hx hb d_S_weightToCome_44 d_S_weightToCome_45 (by decide) (fun c_44 => ?_) (fun c_44 => ?_)
        · refine lv_iinc (v := nI (iv + 1)) (lv' := [(8, .int (nI (iv + 1))), (9, .long ((ser iv) &&& us)), (0, .ref (ad 1)), (1, .long op), (3, .long us), (5, .long ((fo (m_wtcf cn wei ser op us) iv (0, 0)).1)), (7, .int ((fo (m_wtcf cn wei ser op us) iv (0, 0)).2))]) hx hb d_S_weightToCome_66 hl (k := 6) rfl (k_inc _) (by decide) rfl (fun ls hl => ?_)
          refine lv_goto (tgt := 9) hx hb d_S_weightToCome_69 (by decide) ?_
          refine ihiv _ (by omega) ?_
          have e_3 : (fo (m_wtcf cn wei ser op us) (iv + 1) (0, 0)).1 = (fo (m_wtcf cn wei ser op us) iv (0, 0)).1 := by simp [fo_s, m_wtcf, c_13, b_30, c_44]
          have e_4 : (fo (m_wtcf cn wei ser op us) (iv + 1) (0, 0)).2 = (fo (m_wtcf cn wei ser op us) iv (0, 0)).2 := by simp [fo_s, m_wtcf, c_13, b_30, c_44]
          exact ⟨by (try rw [e_3]); (try rw [e_4]); exact lv_sub hl [2, 3, 4, 5, 6, 0] rfl, trivial⟩
        · refine lv_lload hx hb d_S_weightToCome_48 (lv_at hl 4 rfl) ?_
          refine lv_lload hx hb d_S_weightToCome_50 (lv_at hl 0 rfl) ?_
          refine lv_lor hx hb d_S_weightToCome_52 ?_
          refine lv_lstore (lv' := [(5, .long (((fo (m_wtcf cn wei ser op us) iv (0, 0)).1) ||| ((ser iv) &&& us))), (9, .long ((ser iv) &&& us)), (0, .ref (ad 1)), (1, .long op), (3, .long us), (7, .int ((fo (m_wtcf cn wei ser op us) iv (0, 0)).2)), (8, .int (nI iv))]) hx hb d_S_weightToCome_53 hl (by decide) rfl (fun ls hl => ?_)
          refine lv_iload hx hb d_S_weightToCome_55 (lv_at hl 5 rfl) ?_
          refine lv_aload_n hx hb d_S_weightToCome_57 rfl (lv_at hl 2 rfl) ?_
          refine lv_lload hx hb d_S_weightToCome_58 (lv_at hl 1 rfl) ?_
          have hPc := hP.sub (ws' := [(ad 1, eS ad pk pp bw bs), (ad 2, eT ad (nI cn) due lon), (ad 7, eI 81 (ca 7) wei)]) [0, 1, 2] rfl
          have hKc := hK.sub (tys' := [(ca 7, .int)]) [0] rfl
          refine vp_callSi (W.runV (As := [.long ((ser iv) &&& us)]) (rest := [.int ((fo (m_wtcf cn wei ser op us) iv (0, 0)).2)]) ⟨hx, hb, hml, hown, hts⟩ (c_lightestOf l dC dI ad ca pk pp bw bs cn hc due lon wei ((ser iv) &&& us)) (cwV 1 hts (gd_V mw_285 mw_287 mw_16 mw_41 mw_288) rfl rfl rfl (by decide +kernel) ⟨Nat.le_of_ble_eq_true rfl, Nat.le_of_ble_eq_true rfl⟩) (kr_V (q0 := 0) (ci := 2) hKc hPc rfl rfl) rfl rfl hl.1 rfl (lv_room (Nat.le_of_ble_eq_true rfl)) d_S_weightToCome_60 ⟨Nat.zero_le _, Nat.zero_le _⟩) (fun r hq => ?_)
          subst hq
          refine lv_iadd hx hb d_S_weightToCome_63 ?_
          refine lv_istore (lv' := [(7, .int (((fo (m_wtcf cn wei ser op us) iv (0, 0)).2) + (m_light cn wei ((ser iv) &&& us)))), (5, .long (((fo (m_wtcf cn wei ser op us) iv (0, 0)).1) ||| ((ser iv) &&& us))), (9, .long ((ser iv) &&& us)), (0, .ref (ad 1)), (1, .long op), (3, .long us), (8, .int (nI iv))]) hx hb d_S_weightToCome_64 hl (by decide) rfl (fun ls hl => ?_)
          refine lv_iinc (v := nI (iv + 1)) (lv' := [(8, .int (nI (iv + 1))), (7, .int (((fo (m_wtcf cn wei ser op us) iv (0, 0)).2) + (m_light cn wei ((ser iv) &&& us)))), (5, .long (((fo (m_wtcf cn wei ser op us) iv (0, 0)).1) ||| ((ser iv) &&& us))), (9, .long ((ser iv) &&& us)), (0, .ref (ad 1)), (1, .long op), (3, .long us)]) hx hb d_S_weightToCome_66 hl (k := 6) rfl (k_inc _) (by decide) rfl (fun ls hl => ?_)
          refine lv_goto (tgt := 9) hx hb d_S_weightToCome_69 (by decide) ?_
          refine ihiv _ (by omega) ?_
          have e_5 : (fo (m_wtcf cn wei ser op us) (iv + 1) (0, 0)).1 = ((fo (m_wtcf cn wei ser op us) iv (0, 0)).1) ||| ((ser iv) &&& us) := by simp [fo_s, m_wtcf, c_13, b_30, c_44]
          have e_6 : (fo (m_wtcf cn wei ser op us) (iv + 1) (0, 0)).2 = ((fo (m_wtcf cn wei ser op us) iv (0, 0)).2) + (m_light cn wei ((ser iv) &&& us)) := by simp [fo_s, m_wtcf, c_13, b_30, c_44]
          exact ⟨by (try rw [e_5]); (try rw [e_6]); exact lv_sub hl [4, 5, 6, 2, 1, 0] rfl, trivial⟩
  · have hdone : True := trivial
    have e_7 : (fo (m_wtcf cn wei ser op us) 0 (0, 0)).1 = 0 := rfl
    have e_8 : (fo (m_wtcf cn wei ser op us) 0 (0, 0)).2 = 0 := rfl
    have e_9 : nI 0 = 0 := rfl
    exact ⟨by (try rw [e_7]); (try rw [e_8]); (try rw [e_9]); exact lv_sub hl [3, 4, 5, 2, 1, 0] rfl, trivial⟩
set_option maxHeartbeats 4000000 in
set_option maxRecDepth 100000 in
theorem c_fewestServers (l : Launch) (dC : Nat → ClassId) (dI : Nat → Nat → Nat) (ad : Nat → Nat) (ca : Nat → ClassId) (pk : Int32) (pp : Int32) (bw : Int32) (bs : Int64) (ser : Nat → Int64) (op : Int64) (us : Int64) : Met l y_S_fewestServers w_S_fewestServers ({ frames := 1, cells := 0, slots := 0, locals := 40 }) (kr_P [.ref (ad 1), .long op, .long us] (dC, dI) vC [(ad 1, eS ad pk pp bw bs), (ad 8, eL 32 (ca 8) ser)] [(ca 8, .long)]) (vp_Sl (fun r => r = m_few m_pop ser op us)) 0 0 (fun _ => False) := by
  refine Met.ofW (cc := b_S_fewestServers) (maxL := 10) (ret := (some .long)) (by decide) rfl ?_
  intro p e s m args below meth c s₁ B hml hv
  obtain ⟨rfl, hP, hK⟩ := hv
  have hx := B.exec
  have hb := B.bytes
  have hr := B.returns
  have hts := atoms_spec (ws := w_S_fewestServers) B.pre
  have hlocks := B.notSynchronized
  have hown : s.vm.findClass R_S = some m.cls := findClass_of_methodNamed B.named
  have hl := lv_entry ([.ref (ad 1), .long op, .long us]) (n := 10) (Nat.le_of_ble_eq_true rfl)
  rw [lg_entry_eq]
  generalize (lg_sl ([.ref (ad 1), .long op, .long us]) ++ List.replicate (10 - (lg_sl ([.ref (ad 1), .long op, .long us])).length) Slot.unset).toArray = ls at hl ⊢
  have hl : lv_has ls 10 [(0, .ref (ad 1)), (1, .long op), (3, .long us)] := hl
  refine lv_lload_n hx hb d_S_fewestServers_0 rfl (lv_at hl 2 rfl) ?_
  refine lv_lstore (lv' := [(5, .long us), (0, .ref (ad 1)), (1, .long op), (3, .long us)]) hx hb d_S_fewestServers_1 hl (by decide) rfl (fun ls hl => ?_)
  refine lv_iconst (v := 0) hx hb d_S_fewestServers_3 (by decide) ?_
  refine lv_istore (lv' := [(7, .int 0), (5, .long us), (0, .ref (ad 1)), (1, .long op), (3, .long us)]) hx hb d_S_fewestServers_4 hl (by decide) rfl (fun ls hl => ?_)
  refine k_loopR (fun iv ls => lv_has ls 10 [(0, .ref (ad 1)), (1, .long op), (3, .long us), (5, .long (fo (m_fewf m_pop ser op us) iv us)), (7, .int (nI iv))] ∧ True) 32 ?_ 0 _ (Nat.zero_le _) ?_
  · intro iv ls hiiv hI ihiv
    obtain ⟨hl, -⟩ := hI
    refine lv_iload hx hb d_S_fewestServers_6 (lv_at hl 4 rfl) ?_
    refine lv_bipush (v := 32) hx hb d_S_fewestServers_8 (by decide) ?_
    refine k_ge (a := iv) (b := 32) (tgt := 58) hx hb rfl rfl (by omega) (by omega) d_S_fewestServers_10 (by decide) (fun c_10 => ?_) (fun c_10 => ?_)
    · obtain rfl : 32 = iv := by omega
      refine lv_lload hx hb d_S_fewestServers_58 (lv_at hl 3 rfl) ?_
      exact W.lret (v := fo (m_fewf m_pop ser op us) 32 us) hx hb hr (fun t ht hW => ⟨fo (m_fewf m_pop ser op us) 32 us, rfl, rfl, ht⟩) (fun q h => by cases h) d_S_fewestServers_60
    · refine lv_aload_n hx hb d_S_fewestServers_13 rfl (lv_at hl 0 rfl) ?_
      refine va_get (D := (dC, dI)) (ci := 2) (v := .ref (ad 8)) (C := R_S) (T := F_S) (N := 8) hx hb hts (hin_of in_S) hown hK hP 0 rfl rfl 5 (by decide) (hw_of hts mw_147) (fun _ h9 => h9) rfl d_S_fewestServers_14 ?_
      refine lv_iload hx hb d_S_fewestServers_17 (lv_at hl 4 rfl) ?_
      refine k_lald (k := iv) hx hb hK hP 1 0 rfl rfl rfl (by omega) (by decide) d_S_fewestServers_19 ?_
      refine lv_lload_n hx hb d_S_fewestServers_20 rfl (lv_at hl 2 rfl) ?_
      refine lv_land hx hb d_S_fewestServers_21 ?_
      refine lv_lstore (lv' := [(8, .long ((ser iv) &&& us)), (0, .ref (ad 1)), (1, .long op), (3, .long us), (5, .long (fo (m_fewf m_pop ser op us) iv us)), (7, .int (nI iv))]) hx hb d_S_fewestServers_22 hl (by decide) rfl (fun ls hl => ?_)
      refine lv_lload_n hx hb d_S_fewestServers_24 rfl (lv_at hl 2 rfl) ?_
      refine lv_iload hx hb d_S_fewestServers_25 (lv_at hl 5 rfl) ?_
      refine k_bit (i := iv) (tgt := 52) hx hb rfl (by omega) d_S_fewestServers_27 d_S_fewestServers_28 d_S_fewestServers_29 d_S_fewestServers_30 d_S_fewestServers_31 d_S_fewestServers_32 (by decide) (fun b_27 => ?_) (fun b_27 => ?_)
      · refine lv_iinc (v := nI (iv + 1)) (lv' := [(7, .int (nI (iv + 1))), (8, .long ((ser iv) &&& us)), (0, .ref (ad 1)), (1, .long op), (3, .long us), (5, .long (fo (m_fewf m_pop ser op us) iv us))]) hx hb d_S_fewestServers_52 hl (k := 5) rfl (k_inc _) (by decide) rfl (fun ls hl => ?_)
        refine lv_goto (tgt := 6) hx hb d_S_fewestServers_55 (by decide) ?_
        refine ihiv _ (by omega) ?_
        have e_1 : fo (m_fewf m_pop ser op us) (iv + 1) us = fo (m_fewf m_pop ser op us) iv us := by simp [fo_s, m_fewf, c_10, b_27]
        exact ⟨by (try rw [e_1]); exact lv_sub hl [2, 3, 4, 5, 0] rfl, trivial⟩
      · refine lv_lload hx hb d_S_fewestServers_35 (lv_at hl 0 rfl) ?_
        have hPc := hP.sub (ws' := []) [] rfl
        have hKc := hK.sub (tys' := []) [] rfl
        refine vp_callSi (W.runS (As := [.long ((ser iv) &&& us)]) (rest := []) ⟨hx, hb, hml, hown, hts⟩ (c_bitCount l dC dI ad ca ((ser iv) &&& us)) (va_cwS 1 hts (gd_S mw_296 mw_297 mw_51 mw_298) rfl rfl rfl (by decide +kernel) ⟨Nat.le_of_ble_eq_true rfl, Nat.le_of_ble_eq_true rfl⟩) (kr_S hKc hPc) rfl rfl hl.1 rfl (lv_room (Nat.le_of_ble_eq_true rfl)) d_S_fewestServers_37 ⟨Nat.zero_le _, Nat.zero_le _⟩) (fun r hq => ?_)
        subst hq
        refine lv_lload hx hb d_S_fewestServers_40 (lv_at hl 4 rfl) ?_
        have hPc := hP.sub (ws' := []) [] rfl
        have hKc := hK.sub (tys' := []) [] rfl
        refine vp_callSi (W.runS (As := [.long (fo (m_fewf m_pop ser op us) iv us)]) (rest := [.int (m_pop ((ser iv) &&& us))]) ⟨hx, hb, hml, hown, hts⟩ (c_bitCount l dC dI ad ca (fo (m_fewf m_pop ser op us) iv us)) (va_cwS 1 hts (gd_S mw_296 mw_297 mw_51 mw_298) rfl rfl rfl (by decide +kernel) ⟨Nat.le_of_ble_eq_true rfl, Nat.le_of_ble_eq_true rfl⟩) (kr_S hKc hPc) rfl rfl hl.1 rfl (lv_room (Nat.le_of_ble_eq_true rfl)) d_S_fewestServers_42 ⟨Nat.zero_le _, Nat.zero_le _⟩) (fun r hq => ?_)
        subst hq
        refine lv_icmp_ge (tgt := 52) hx hb d_S_fewestServers_45 (by decide) (fun c_45 => ?_) (fun c_45 => ?_)
        · have d_45 := Int32.not_lt.mpr c_45
          refine lv_iinc (v := nI (iv + 1)) (lv' := [(7, .int (nI (iv + 1))), (8, .long ((ser iv) &&& us)), (0, .ref (ad 1)), (1, .long op), (3, .long us), (5, .long (fo (m_fewf m_pop ser op us) iv us))]) hx hb d_S_fewestServers_52 hl (k := 5) rfl (k_inc _) (by decide) rfl (fun ls hl => ?_)
          refine lv_goto (tgt := 6) hx hb d_S_fewestServers_55 (by decide) ?_
          refine ihiv _ (by omega) ?_
          have e_2 : fo (m_fewf m_pop ser op us) (iv + 1) us = fo (m_fewf m_pop ser op us) iv us := by simp [fo_s, m_fewf, c_10, b_27, c_45, d_45]
          exact ⟨by (try rw [e_2]); exact lv_sub hl [2, 3, 4, 5, 0] rfl, trivial⟩
        · have d_45 := Int32.not_le.mp c_45
          refine lv_lload hx hb d_S_fewestServers_48 (lv_at hl 0 rfl) ?_
          refine lv_lstore (lv' := [(5, .long ((ser iv) &&& us)), (8, .long ((ser iv) &&& us)), (0, .ref (ad 1)), (1, .long op), (3, .long us), (7, .int (nI iv))]) hx hb d_S_fewestServers_50 hl (by decide) rfl (fun ls hl => ?_)
          refine lv_iinc (v := nI (iv + 1)) (lv' := [(7, .int (nI (iv + 1))), (5, .long ((ser iv) &&& us)), (8, .long ((ser iv) &&& us)), (0, .ref (ad 1)), (1, .long op), (3, .long us)]) hx hb d_S_fewestServers_52 hl (k := 5) rfl (k_inc _) (by decide) rfl (fun ls hl => ?_)
          refine lv_goto (tgt := 6) hx hb d_S_fewestServers_55 (by decide) ?_
          refine ihiv _ (by omega) ?_
          have e_3 : fo (m_fewf m_pop ser op us) (iv + 1) us = (ser iv) &&& us := by simp [fo_s, m_fewf, c_10, b_27, c_45, d_45]
          exact ⟨by (try rw [e_3]); exact lv_sub hl [3, 4, 5, 1, 0] rfl, trivial⟩
  · have hdone : True := trivial
    have e_4 : fo (m_fewf m_pop ser op us) 0 us = us := rfl
    have e_5 : nI 0 = 0 := rfl
    exact ⟨by (try rw [e_4]); (try rw [e_5]); exact lv_sub hl [2, 3, 4, 1, 0] rfl, trivial⟩
