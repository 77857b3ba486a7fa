set_option maxHeartbeats 4000000 in
set_option maxRecDepth 100000 in
theorem c_m_placeOf (l : Launch) (dC : Nat → ClassId) (dI : Nat → Nat → Nat) (ad : Nat → Nat) (ca : Nat → ClassId) (thr : Int32) (inn : Int32) (oun : Int32) (man : Int32) (kno : Int32) (cho : Int32) (kep : Int32) (dep : Int32) (cam : Int32) (csz : Int32) (clo : Int64) (chi : Int64) (th : Nat → Int32) (le : Nat → Int32) (ro : Nat → Int32) (lf : Int32) (rr : Int32) (hs : ∃ j, j < 65536 ∧ mo_sp th le ro lf rr j = true) : Met l y_M_placeOf w_M_placeOf ({ frames := 0, cells := 0, slots := 0, locals := 0 }) (kr_P [.ref (ad 20), .int lf, .int rr] (dC, dI) vC [(ad 20, eM ad thr inn oun man kno cho kep dep cam csz clo chi), (ad 29, eZ 65536 (ca 29) th), (ad 30, eI 65536 (ca 30) le), (ad 31, eI 65536 (ca 31) ro)] [(ca 29, .boolean), (ca 30, .int), (ca 31, .int)]) (vp_Si (fun r => r = nI (mo_at th le ro lf rr))) 0 0 (fun _ => False) := by
  refine Met.ofW (cc := b_M_placeOf) (maxL := 4) (ret := (some .int)) (by decide) rfl ?_
  intro p e s m args below meth c s₁ B hml hv
  obtain ⟨rfl, hP, hK⟩ := hv
  have hx := B.exec
  have hb := B.bytes
  have hr := B.returns
  have hts := atoms_spec (ws := w_M_placeOf) B.pre
  have hlocks := B.notSynchronized
  have hown : s.vm.findClass R_M = some m.cls := findClass_of_methodNamed B.named
  have hl := lv_entry ([.ref (ad 20), .int lf, .int rr]) (n := 4) (Nat.le_of_ble_eq_true rfl)
  rw [lg_entry_eq]
  generalize (lg_sl ([.ref (ad 20), .int lf, .int rr]) ++ List.replicate (4 - (lg_sl ([.ref (ad 20), .int lf, .int rr])).length) Slot.unset).toArray = ls at hl ⊢
  have hl : lv_has ls 4 [(0, .ref (ad 20)), (1, .int lf), (2, .int rr)] := hl
  refine lv_iload_n hx hb d_M_placeOf_0 rfl (lv_at hl 1 rfl) ?_
  refine lv_ldc hx hb hown (hw_of hts mw_663) d_M_placeOf_1 ?_
  refine lv_imul hx hb d_M_placeOf_3 ?_
  refine lv_iload_n hx hb d_M_placeOf_4 rfl (lv_at hl 1 rfl) ?_
  refine lv_bipush (v := 13) hx hb d_M_placeOf_5 (by decide) ?_
  refine lv_iushr (v := (lf.toUInt32 >>> ((13 : Int32).toUInt32 &&& Int32.toUInt32 31)).toInt32) hx hb d_M_placeOf_7 rfl ?_
  refine lv_ixor hx hb d_M_placeOf_8 ?_
  refine lv_iload_n hx hb d_M_placeOf_9 rfl (lv_at hl 2 rfl) ?_
  refine lv_sipush (v := 7919) hx hb d_M_placeOf_10 (by decide) ?_
  refine lv_imul hx hb d_M_placeOf_13 ?_
  refine lv_ixor hx hb d_M_placeOf_14 ?_
  refine lv_ldc hx hb hown (hw_of hts mw_664) d_M_placeOf_15 ?_
  refine lv_iand hx hb d_M_placeOf_17 ?_
  rw [pk_and _ (m := 65535) 16 rfl]
  refine lv_istore_n (lv' := [(3, .int (nI (mo_h lf rr))), (0, .ref (ad 20)), (1, .int lf), (2, .int rr)]) hx hb d_M_placeOf_18 rfl hl (by decide) rfl (fun ls hl => ?_)
  refine k_loopR (fun jv ls => lv_has ls 4 [(0, .ref (ad 20)), (1, .int lf), (2, .int rr), (3, .int (nI ((mo_h lf rr + jv) % 65536)))] ∧ True) (fi (mo_sp th le ro lf rr) 65536) ?_ 0 _ (Nat.zero_le _) ?_
  · intro jv ls hijv hI ihjv
    obtain ⟨hl, -⟩ := hI
    refine lv_aload_n hx hb d_M_placeOf_19 rfl (lv_at hl 0 rfl) ?_
    refine va_get (D := (dC, dI)) (ci := 4) (v := .ref (ad 29)) (C := R_M) (T := F_M) (N := 33) hx hb hts (hin_of in_M) hown hK hP 0 rfl rfl 14 (by decide) (hw_of hts mw_483) (fun _ h9 => h9) rfl d_M_placeOf_20 ?_
    refine lv_iload_n hx hb d_M_placeOf_23 rfl (lv_at hl 3 rfl) ?_
    refine k_zald (k := (mo_h lf rr + jv) % 65536) hx hb hK hP 1 0 rfl rfl rfl (by omega) (by decide) d_M_placeOf_24 ?_
    refine lv_if_eq (tgt := 58) hx hb d_M_placeOf_25 (by decide) (fun c_25 => ?_) (fun c_25 => ?_)
    · have hJ := fi_stop (P := (mo_sp th le ro lf rr)) 65536 (j := jv) (by simp [mo_sp, c_25])
      obtain rfl : fi (mo_sp th le ro lf rr) 65536 = jv := Nat.le_antisymm hJ hijv
      refine lv_iload_n hx hb d_M_placeOf_58 rfl (lv_at hl 3 rfl) ?_
      exact W.iret (v := nI (mo_at th le ro lf rr)) hx hb hr (fun t ht hW => ⟨nI (mo_at th le ro lf rr), rfl, rfl, ht⟩) (fun q h => by cases h) d_M_placeOf_59
    · refine lv_aload_n hx hb d_M_placeOf_28 rfl (lv_at hl 0 rfl) ?_
      refine va_get (D := (dC, dI)) (ci := 4) (v := .ref (ad 30)) (C := R_M) (T := F_M) (N := 33) hx hb hts (hin_of in_M) hown hK hP 0 rfl rfl 15 (by decide) (hw_of hts mw_484) (fun _ h9 => h9) rfl d_M_placeOf_29 ?_
      refine lv_iload_n hx hb d_M_placeOf_32 rfl (lv_at hl 3 rfl) ?_
      refine k_iald (k := (mo_h lf rr + jv) % 65536) hx hb hK hP 2 1 rfl rfl rfl (by omega) (by decide) d_M_placeOf_33 ?_
      refine lv_iload_n hx hb d_M_placeOf_34 rfl (lv_at hl 1 rfl) ?_
      refine lv_icmp_ne (tgt := 48) hx hb d_M_placeOf_35 (by decide) (fun c_35 => ?_) (fun c_35 => ?_)
      · have hjJ := fi_go (P := (mo_sp th le ro lf rr)) (j := jv) hs (by simp [mo_sp, c_25, c_35]) hijv
        refine lv_iload_n hx hb d_M_placeOf_48 rfl (lv_at hl 3 rfl) ?_
        refine lv_iconst (v := 1) hx hb d_M_placeOf_49 (by decide) ?_
        refine k_iadd (a := (mo_h lf rr + jv) % 65536) (b := 1) hx hb rfl rfl d_M_placeOf_50 ?_
        refine lv_ldc hx hb hown (hw_of hts mw_664) d_M_placeOf_51 ?_
        refine lv_iand hx hb d_M_placeOf_53 ?_
        rw [pk_andN (m := 65535) (by omega) 16 rfl]
        refine lv_istore_n (lv' := [(3, .int (nI (((mo_h lf rr + jv) % 65536 + 1) % 65536))), (0, .ref (ad 20)), (1, .int lf), (2, .int rr)]) hx hb d_M_placeOf_54 rfl hl (by decide) rfl (fun ls hl => ?_)
        refine lv_goto (tgt := 19) hx hb d_M_placeOf_55 (by decide) ?_
        refine ihjv _ (by omega) ?_
        have e_1 : nI ((mo_h lf rr + (jv + 1)) % 65536) = nI (((mo_h lf rr + jv) % 65536 + 1) % 65536) := by congr 1; omega
        exact ⟨by (try rw [e_1]); exact lv_sub hl [1, 2, 3, 0] rfl, trivial⟩
      · refine lv_aload_n hx hb d_M_placeOf_38 rfl (lv_at hl 0 rfl) ?_
        refine va_get (D := (dC, dI)) (ci := 4) (v := .ref (ad 31)) (C := R_M) (T := F_M) (N := 33) hx hb hts (hin_of in_M) hown hK hP 0 rfl rfl 16 (by decide) (hw_of hts mw_485) (fun _ h9 => h9) rfl d_M_placeOf_39 ?_
        refine lv_iload_n hx hb d_M_placeOf_42 rfl (lv_at hl 3 rfl) ?_
        refine k_iald (k := (mo_h lf rr + jv) % 65536) hx hb hK hP 3 2 rfl rfl rfl (by omega) (by decide) d_M_placeOf_43 ?_
        refine lv_iload_n hx hb d_M_placeOf_44 rfl (lv_at hl 2 rfl) ?_
        refine lv_icmp_eq (tgt := 58) hx hb d_M_placeOf_45 (by decide) (fun c_45 => ?_) (fun c_45 => ?_)
        · have hJ := fi_stop (P := (mo_sp th le ro lf rr)) 65536 (j := jv) (by simp [mo_sp, c_35, c_45])
          obtain rfl : fi (mo_sp th le ro lf rr) 65536 = jv := Nat.le_antisymm hJ hijv
          refine lv_iload_n hx hb d_M_placeOf_58 rfl (lv_at hl 3 rfl) ?_
          exact W.iret (v := nI (mo_at th le ro lf rr)) hx hb hr (fun t ht hW => ⟨nI (mo_at th le ro lf rr), rfl, rfl, ht⟩) (fun q h => by cases h) d_M_placeOf_59
        · have hjJ := fi_go (P := (mo_sp th le ro lf rr)) (j := jv) hs (by simp [mo_sp, c_25, c_45]) hijv
          refine lv_iload_n hx hb d_M_placeOf_48 rfl (lv_at hl 3 rfl) ?_
          refine lv_iconst (v := 1) hx hb d_M_placeOf_49 (by decide) ?_
          refine k_iadd (a := (mo_h lf rr + jv) % 65536) (b := 1) hx hb rfl rfl d_M_placeOf_50 ?_
          refine lv_ldc hx hb hown (hw_of hts mw_664) d_M_placeOf_51 ?_
          refine lv_iand hx hb d_M_placeOf_53 ?_
          rw [pk_andN (m := 65535) (by omega) 16 rfl]
          refine lv_istore_n (lv' := [(3, .int (nI (((mo_h lf rr + jv) % 65536 + 1) % 65536))), (0, .ref (ad 20)), (1, .int lf), (2, .int rr)]) hx hb d_M_placeOf_54 rfl hl (by decide) rfl (fun ls hl => ?_)
          refine lv_goto (tgt := 19) hx hb d_M_placeOf_55 (by decide) ?_
          refine ihjv _ (by omega) ?_
          have e_2 : nI ((mo_h lf rr + (jv + 1)) % 65536) = nI (((mo_h lf rr + jv) % 65536 + 1) % 65536) := by congr 1; omega
          exact ⟨by (try rw [e_2]); exact lv_sub hl [1, 2, 3, 0] rfl, trivial⟩
  · have hdone : True := trivial
    have e_3 : nI ((mo_h lf rr + 0) % 65536) = nI (mo_h lf rr) := by rw [Nat.add_zero]; exact congrArg nI (Nat.mod_eq_of_lt (Nat.mod_lt _ (by decide)))
    exact ⟨by (try rw [e_3]); exact lv_sub hl [1, 2, 3, 0] rfl, trivial⟩
