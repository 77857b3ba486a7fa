set_option maxHeartbeats 4000000 in
set_option maxRecDepth 100000 in
theorem c_howMany (l : Launch) (dC : Nat → ClassId) (dI : Nat → Nat → Nat) (ad : Nat → Nat) (ca : Nat → ClassId) (tP tI : Nat) (nn : Nat) (hnn : nn ≤ 4) : Met l y_P_howMany w_P_howMany ({ frames := 0, cells := 0, slots := 0, locals := 0 }) (kr_PX tP tI [.int (nI nn)] (dC, dI) vC [] []) (vp_Si (fun r => r = nI (tpow nn))) 0 0 (fun _ => False) := by
  refine Met.ofW (cc := b_P_howMany) (maxL := 1) (ret := (some .int)) (by decide) rfl ?_
  intro p e s m args below meth c s₁ B hml hv
  obtain ⟨⟨rfl, hP, hK⟩, hX⟩ := hv
  have hS : va_S (fun _ => False) s.heap s.heap [] := va_S.rf
  have hx := B.exec
  have hb := B.bytes
  have hr := B.returns
  have hts := atoms_spec (ws := w_P_howMany) B.pre
  have hlocks := B.notSynchronized
  have hown : s.vm.findClass R_P = some m.cls := findClass_of_methodNamed B.named
  have hl := lv_entry ([.int (nI nn)]) (n := 1) (Nat.le_of_ble_eq_true rfl)
  rw [lg_entry_eq]
  generalize (lg_sl ([.int (nI nn)]) ++ List.replicate (1 - (lg_sl ([.int (nI nn)])).length) Slot.unset).toArray = ls at hl ⊢
  have hl : lv_has ls 1 [(0, .int (nI nn))] := hl
  refine lv_iload_n hx hb d_P_howMany_0 rfl (lv_at hl 0 rfl) ?_
  refine lv_if_lt (tgt := 17) hx hb d_P_howMany_1 (by decide) (fun h => absurd h (nI_pos (by omega))) (fun _ => ?_)
  refine lv_iload_n hx hb d_P_howMany_4 rfl (lv_at hl 0 rfl) ?_
  refine lv_iconst (v := 4) hx hb d_P_howMany_5 (by decide) ?_
  refine k_gt (a := nn) (b := 4) (tgt := 17) hx hb rfl rfl (by omega) (by omega) d_P_howMany_6 (by decide) (fun c_6 => ?_) (fun c_6 => ?_)
  · exfalso; omega
  · refine va_gets (C := R_prod) (n := "POWERS") (d := "[I") hx hb hX.1.1 hS hown (hw_of hts mw_219) (fun _ h9 => h9) d_P_howMany_9 ?_
    refine lv_iload_n hx hb d_P_howMany_12 rfl (lv_at hl 0 rfl) ?_
    refine k_ti (k := nn) hx hb hX.1.2 hS rfl (by omega) (by decide) rfl d_P_howMany_13 ?_
    refine lv_goto (tgt := 18) hx hb d_P_howMany_14 (by decide) ?_
    exact W.iret (v := nI (tpow nn)) hx hb hr (fun t ht hW => ⟨nI (tpow nn), rfl, rfl, ht⟩) (fun q h => by cases h) d_P_howMany_18
set_option maxHeartbeats 4000000 in
set_option maxRecDepth 100000 in
theorem c_withoutPart (l : Launch) (dC : Nat → ClassId) (dI : Nat → Nat → Nat) (ad : Nat → Nat) (ca : Nat → ClassId) (tP tI : Nat) (pn : Nat) (kn : Nat) (hpn : pn < 81) (hkn : kn < 4) : Met l y_P_withoutPart w_P_withoutPart ({ frames := 0, cells := 0, slots := 0, locals := 0 }) (kr_PX tP tI [.int (nI pn), .int (nI kn)] (dC, dI) vC [] []) (vp_Si (fun r => r = nI (wop pn kn))) 0 0 (fun _ => False) := by
  refine Met.ofW (cc := b_P_withoutPart) (maxL := 4) (ret := (some .int)) (by decide) rfl ?_
  intro p e s m args below meth c s₁ B hml hv
  obtain ⟨⟨rfl, hP, hK⟩, hX⟩ := hv
  have hS : va_S (fun _ => False) s.heap s.heap [] := va_S.rf
  have hx := B.exec
  have hb := B.bytes
  have hr := B.returns
  have hts := atoms_spec (ws := w_P_withoutPart) B.pre
  have hlocks := B.notSynchronized
  have hown : s.vm.findClass R_P = some m.cls := findClass_of_methodNamed B.named
  have hl := lv_entry ([.int (nI pn), .int (nI kn)]) (n := 4) (Nat.le_of_ble_eq_true rfl)
  rw [lg_entry_eq]
  generalize (lg_sl ([.int (nI pn), .int (nI kn)]) ++ List.replicate (4 - (lg_sl ([.int (nI pn), .int (nI kn)])).length) Slot.unset).toArray = ls at hl ⊢
  have hl : lv_has ls 4 [(0, .int (nI pn)), (1, .int (nI kn))] := hl
  refine lv_iload_n hx hb d_P_withoutPart_0 rfl (lv_at hl 0 rfl) ?_
  refine lv_if_lt (tgt := 19) hx hb d_P_withoutPart_1 (by decide) (fun h => absurd h (nI_pos (by omega))) (fun _ => ?_)
  refine lv_iload_n hx hb d_P_withoutPart_4 rfl (lv_at hl 0 rfl) ?_
  refine lv_bipush (v := 81) hx hb d_P_withoutPart_5 (by decide) ?_
  refine k_ge (a := pn) (b := 81) (tgt := 19) hx hb rfl rfl (by omega) (by omega) d_P_withoutPart_7 (by decide) (fun c_7 => ?_) (fun c_7 => ?_)
  · exfalso; omega
  · refine lv_iload_n hx hb d_P_withoutPart_10 rfl (lv_at hl 1 rfl) ?_
    refine lv_if_lt (tgt := 19) hx hb d_P_withoutPart_11 (by decide) (fun h => absurd h (nI_pos (by omega))) (fun _ => ?_)
    refine lv_iload_n hx hb d_P_withoutPart_14 rfl (lv_at hl 1 rfl) ?_
    refine lv_iconst (v := 4) hx hb d_P_withoutPart_15 (by decide) ?_
    refine k_lt (a := kn) (b := 4) (tgt := 21) hx hb rfl rfl (by omega) (by omega) d_P_withoutPart_16 (by decide) (fun c_16 => ?_) (fun c_16 => ?_)
    · refine va_gets (C := R_prod) (n := "POWERS") (d := "[I") hx hb hX.1.1 hS hown (hw_of hts mw_219) (fun _ h9 => h9) d_P_withoutPart_21 ?_
      refine lv_iload_n hx hb d_P_withoutPart_24 rfl (lv_at hl 1 rfl) ?_
      refine k_ti (k := kn) hx hb hX.1.2 hS rfl (by omega) (by decide) rfl d_P_withoutPart_25 ?_
      refine lv_istore_n (lv' := [(2, .int (nI (tpow kn))), (0, .int (nI pn)), (1, .int (nI kn))]) hx hb d_P_withoutPart_26 rfl hl (by decide) rfl (fun ls hl => ?_)
      refine lv_iload_n hx hb d_P_withoutPart_27 rfl (lv_at hl 0 rfl) ?_
      refine lv_if_ne (tgt := 35) hx hb d_P_withoutPart_28 (by decide) (fun c_28 => ?_) (fun c_28 => ?_)
      · refine lv_iload_n hx hb d_P_withoutPart_35 rfl (lv_at hl 1 rfl) ?_
        refine lv_iload_n hx hb d_P_withoutPart_36 rfl (lv_at hl 0 rfl) ?_
        refine k_idiv (a := pn) (b := tpow kn) hx hb rfl rfl (by omega) (tpow_pos kn) (tpow_lt hkn) d_P_withoutPart_37 ?_
        refine lv_iconst (v := 3) hx hb d_P_withoutPart_38 (by decide) ?_
        refine k_irem (a := pn / (tpow kn)) (b := 3) hx hb rfl rfl (div_lt hpn) (by omega) (by omega) d_P_withoutPart_39 ?_
        refine lv_istore_n (lv' := [(3, .int (nI ((pn / (tpow kn)) % 3))), (2, .int (nI (tpow kn))), (0, .int (nI pn)), (1, .int (nI kn))]) hx hb d_P_withoutPart_40 rfl hl (by decide) rfl (fun ls hl => ?_)
        refine lv_iload_n hx hb d_P_withoutPart_41 rfl (lv_at hl 2 rfl) ?_
        refine lv_iload_n hx hb d_P_withoutPart_42 rfl (lv_at hl 0 rfl) ?_
        refine lv_iload_n hx hb d_P_withoutPart_43 rfl (lv_at hl 1 rfl) ?_
        refine k_imul (a := (pn / (tpow kn)) % 3) (b := tpow kn) hx hb rfl rfl d_P_withoutPart_44 ?_
        refine k_isub (a := pn) (b := ((pn / (tpow kn)) % 3) * (tpow kn)) hx hb rfl rfl (wop_le pn kn) d_P_withoutPart_45 ?_
        exact W.iret (v := nI (pn - (((pn / (tpow kn)) % 3) * (tpow kn)))) hx hb hr (fun t ht hW => ⟨nI (pn - (((pn / (tpow kn)) % 3) * (tpow kn))), rfl, rfl, ht⟩) (fun q h => by cases h) d_P_withoutPart_46
      · exact absurd c_28 (nI_ne0 (tpow_pos kn) (tpow_lt hkn))
    · exfalso; omega
set_option maxHeartbeats 4000000 in
set_option maxRecDepth 100000 in
theorem c_describe (l : Launch) (dC : Nat → ClassId) (dI : Nat → Nat → Nat) (ad : Nat → Nat) (ca : Nat → ClassId) (tP tI : Nat) (pin : Nat → Int32) (psz : Nat → Int32) (pn : Nat) (hpn : pn < 81) (sz : Nat) : Met l y_P_describe w_P_describe ({ frames := 0, cells := 0, slots := 0, locals := 0 }) (kw_PX tP tI [.ref (ad 3), .int (nI pn)] sz (dC, dI) vC [(ad 3, eP ad), (ad 15, eI 81 (ca 15) pin), (ad 16, eI 81 (ca 16) psz)] [(ca 15, .int), (ca 16, .int)]) (kw_Qv (dC, dI) vC [(ca 15, .int), (ca 16, .int)] (va_A [(ad 3, eP ad), (ad 15, eI 81 (ca 15) pin), (ad 16, eI 81 (ca 16) psz)] sz) [(ad 3, eP ad), (ad 15, eI 81 (ca 15) (upd pin pn (nI (fo (mc_dsf pn) 4 (65535, 0)).1))), (ad 16, eI 81 (ca 16) (upd psz pn (nI (fo (mc_dsf pn) 4 (65535, 0)).2)))]) 0 0 (va_A [(ad 3, eP ad), (ad 15, eI 81 (ca 15) pin), (ad 16, eI 81 (ca 16) psz)] sz) := by
  refine Met.ofW (cc := b_P_describe) (maxL := 7) (ret := none) (by decide) rfl ?_
  intro p e s m args below meth c s₁ B hml hv
  obtain ⟨⟨rfl, hsz, hP, hK, hD0⟩, hX⟩ := hv
  have hx := B.exec
  have hb := B.bytes
  have hr := B.returns
  have hts := atoms_spec (ws := w_P_describe) B.pre
  have hlocks := B.notSynchronized
  have hown : s.vm.findClass R_P = some m.cls := findClass_of_methodNamed B.named
  subst hsz
  have hD := hD0.self (sz := s.heap.size)
  generalize hAe : va_A [(ad 3, eP ad), (ad 15, eI 81 (ca 15) pin), (ad 16, eI 81 (ca 16) psz)] s.heap.size = A at hD hX ⊢
  have hA : ∀ q : Nat, s.heap.size ≤ q → A q := fun q h => by rw [← hAe]; exact Or.inr h
  have hS : va_S A s.heap s.heap [] := va_S.rf
  have hP : va_P (dC, dI) vC [(ad 3, eP ad), (ad 15, eI 81 (ca 15) pin), (ad 16, eI 81 (ca 16) psz)] s.heap := hP
  have hl := lv_entry ([.ref (ad 3), .int (nI pn)]) (n := 7) (Nat.le_of_ble_eq_true rfl)
  rw [lg_entry_eq]
  generalize (lg_sl ([.ref (ad 3), .int (nI pn)]) ++ List.replicate (7 - (lg_sl ([.ref (ad 3), .int (nI pn)])).length) Slot.unset).toArray = ls at hl ⊢
  have hl : lv_has ls 7 [(0, .ref (ad 3)), (1, .int (nI pn))] := hl
  refine lv_ldc hx hb hown (hw_of hts mw_82) d_P_describe_0 ?_
  refine lv_istore_n (lv' := [(2, .int 65535), (0, .ref (ad 3)), (1, .int (nI pn))]) hx hb d_P_describe_2 rfl hl (by decide) rfl (fun ls hl => ?_)
  refine lv_iconst (v := 0) hx hb d_P_describe_3 (by decide) ?_
  refine lv_istore_n (lv' := [(3, .int 0), (2, .int 65535), (0, .ref (ad 3)), (1, .int (nI pn))]) hx hb d_P_describe_4 rfl hl (by decide) rfl (fun ls hl => ?_)
  refine lv_iload_n hx hb d_P_describe_5 rfl (lv_at hl 3 rfl) ?_
  refine lv_istore (lv' := [(4, .int (nI pn)), (3, .int 0), (2, .int 65535), (0, .ref (ad 3)), (1, .int (nI pn))]) hx hb d_P_describe_6 hl (by decide) rfl (fun ls hl => ?_)
  refine lv_iconst (v := 0) hx hb d_P_describe_8 (by decide) ?_
  refine lv_istore (lv' := [(5, .int 0), (4, .int (nI pn)), (3, .int 0), (2, .int 65535), (0, .ref (ad 3)), (1, .int (nI pn))]) hx hb d_P_describe_9 hl (by decide) rfl (fun ls hl => ?_)
  refine k_loopH (fun kv H locs ls => lv_has ls 7 [(0, .ref (ad 3)), (1, .int (nI pn)), (2, .int (nI (fo (mc_dsf pn) kv (65535, 0)).1)), (3, .int (nI ((fo (mc_dsf pn) kv (65535, 0)).2))), (4, .int (nI (pn / 3 ^ kv))), (5, .int (nI kv))] ∧ va_P (dC, dI) vC [(ad 3, eP ad), (ad 15, eI 81 (ca 15) pin), (ad 16, eI 81 (ca 16) psz)] H ∧ va_D A [(ad 3, eP ad), (ad 15, eI 81 (ca 15) pin), (ad 16, eI 81 (ca 16) psz)] ∧ va_S A s.heap H locs ∧ (fo (mc_dsf pn) kv (65535, 0)).1 < 65536 ∧ (fo (mc_dsf pn) kv (65535, 0)).2 ≤ kv) 4 ?_ 0 _ _ _ (Nat.zero_le _) ?_
  · intro kv H locs ls hikv hI ihkv
    obtain ⟨hl, hP, hD, hS, hlt, hle⟩ := hI
    refine lv_iload hx hb d_P_describe_11 (lv_at hl 5 rfl) ?_
    refine lv_iconst (v := 4) hx hb d_P_describe_13 (by decide) ?_
    refine k_ge (a := kv) (b := 4) (tgt := 76) hx hb rfl rfl (by omega) (by omega) d_P_describe_14 (by decide) (fun c_14 => ?_) (fun c_14 => ?_)
    · obtain rfl : 4 = kv := by omega
      refine lv_aload_n hx hb d_P_describe_76 rfl (lv_at hl 0 rfl) ?_
      refine va_get (D := (dC, dI)) (ci := 1) (v := .ref (ad 15)) (C := R_P) (T := F_P) (N := 2) hx hb hts (hin_of in_P) hown hK hP 0 rfl rfl 0 (by decide) (hw_of hts mw_85) (fun _ h9 => h9) rfl d_P_describe_77 ?_
      refine lv_iload_n hx hb d_P_describe_80 rfl (lv_at hl 1 rfl) ?_
      refine lv_iload_n hx hb d_P_describe_81 rfl (lv_at hl 2 rfl) ?_
      refine k_iast (k := pn) hx hb hK hP hD hS 1 0 rfl rfl rfl (by omega) (by decide) d_P_describe_82 (fun H locs hP hD hS => ?_)
      have hP : va_P (dC, dI) vC [(ad 3, eP ad), (ad 15, eI 81 (ca 15) (upd pin pn (nI (fo (mc_dsf pn) 4 (65535, 0)).1))), (ad 16, eI 81 (ca 16) psz)] H := hP
      have hD : va_D A [(ad 3, eP ad), (ad 15, eI 81 (ca 15) (upd pin pn (nI (fo (mc_dsf pn) 4 (65535, 0)).1))), (ad 16, eI 81 (ca 16) psz)] := hD
      refine lv_aload_n hx hb d_P_describe_83 rfl (lv_at hl 0 rfl) ?_
      refine va_get (D := (dC, dI)) (ci := 1) (v := .ref (ad 16)) (C := R_P) (T := F_P) (N := 2) hx hb hts (hin_of in_P) hown hK hP 0 rfl rfl 1 (by decide) (hw_of hts mw_87) (fun _ h9 => h9) rfl d_P_describe_84 ?_
      refine lv_iload_n hx hb d_P_describe_87 rfl (lv_at hl 1 rfl) ?_
      refine lv_iload_n hx hb d_P_describe_88 rfl (lv_at hl 3 rfl) ?_
      refine k_iast (k := pn) hx hb hK hP hD hS 2 1 rfl rfl rfl (by omega) (by decide) d_P_describe_89 (fun H locs hP hD hS => ?_)
      have hP : va_P (dC, dI) vC [(ad 3, eP ad), (ad 15, eI 81 (ca 15) (upd pin pn (nI (fo (mc_dsf pn) 4 (65535, 0)).1))), (ad 16, eI 81 (ca 16) (upd psz pn (nI ((fo (mc_dsf pn) 4 (65535, 0)).2))))] H := hP
      have hD : va_D A [(ad 3, eP ad), (ad 15, eI 81 (ca 15) (upd pin pn (nI (fo (mc_dsf pn) 4 (65535, 0)).1))), (ad 16, eI 81 (ca 16) (upd psz pn (nI ((fo (mc_dsf pn) 4 (65535, 0)).2))))] := hD
      have e_1 : upd psz pn (nI (fo (mc_dsf pn) 4 (65535, 0)).2) = upd psz pn (nI ((fo (mc_dsf pn) 4 (65535, 0)).2)) := rfl
      exact W.vret hx hb hr (fun t ht hW => by (try rw [e_1]); exact kw_endv hP hD hK hS [0, 1, 2] rfl (by decide) rfl ht hW.alike) hS.2.2 d_P_describe_90
    · refine lv_iload hx hb d_P_describe_17 (lv_at hl 4 rfl) ?_
      refine lv_iconst (v := 3) hx hb d_P_describe_19 (by decide) ?_
      refine k_irem (a := pn / 3 ^ kv) (b := 3) hx hb rfl rfl (div_lt hpn) (by omega) (by omega) d_P_describe_20 ?_
      refine lv_istore (lv' := [(6, .int (nI ((pn / 3 ^ kv) % 3))), (0, .ref (ad 3)), (1, .int (nI pn)), (2, .int (nI (fo (mc_dsf pn) kv (65535, 0)).1)), (3, .int (nI ((fo (mc_dsf pn) kv (65535, 0)).2))), (4, .int (nI (pn / 3 ^ kv))), (5, .int (nI kv))]) hx hb d_P_describe_21 hl (by decide) rfl (fun ls hl => ?_)
      refine lv_iload hx hb d_P_describe_23 (lv_at hl 5 rfl) ?_
      refine lv_iconst (v := 3) hx hb d_P_describe_25 (by decide) ?_
      refine k_idiv (a := pn / 3 ^ kv) (b := 3) hx hb rfl rfl (div_lt hpn) (by omega) (by omega) d_P_describe_26 ?_
      refine lv_istore (lv' := [(4, .int (nI ((pn / 3 ^ kv) / 3))), (6, .int (nI ((pn / 3 ^ kv) % 3))), (0, .ref (ad 3)), (1, .int (nI pn)), (2, .int (nI (fo (mc_dsf pn) kv (65535, 0)).1)), (3, .int (nI ((fo (mc_dsf pn) kv (65535, 0)).2))), (5, .int (nI kv))]) hx hb d_P_describe_27 hl (by decide) rfl (fun ls hl => ?_)
      refine lv_iload hx hb d_P_describe_29 (lv_at hl 1 rfl) ?_
      refine lv_iconst (v := 1) hx hb d_P_describe_31 (by decide) ?_
      refine k_ne (a := (pn / 3 ^ kv) % 3) (b := 1) (tgt := 50) hx hb rfl rfl (by omega) (by omega) d_P_describe_32 (by decide) (fun c_32 => ?_) (fun c_32 => ?_)
      · refine lv_iload hx hb d_P_describe_50 (lv_at hl 1 rfl) ?_
        refine lv_iconst (v := 2) hx hb d_P_describe_52 (by decide) ?_
        refine k_ne (a := (pn / 3 ^ kv) % 3) (b := 2) (tgt := 70) hx hb rfl rfl (by omega) (by omega) d_P_describe_53 (by decide) (fun c_53 => ?_) (fun c_53 => ?_)
        · refine lv_iinc (v := nI (kv + 1)) (lv' := [(5, .int (nI (kv + 1))), (4, .int (nI ((pn / 3 ^ kv) / 3))), (6, .int (nI ((pn / 3 ^ kv) % 3))), (0, .ref (ad 3)), (1, .int (nI pn)), (2, .int (nI (fo (mc_dsf pn) kv (65535, 0)).1)), (3, .int (nI ((fo (mc_dsf pn) kv (65535, 0)).2)))]) hx hb d_P_describe_70 hl (k := 6) rfl (k_inc _) (by decide) rfl (fun ls hl => ?_)
          refine lv_goto (tgt := 11) hx hb d_P_describe_73 (by decide) ?_
          refine ihkv _ _ _ (by omega) ?_
          have e_2 : nI (fo (mc_dsf pn) (kv + 1) (65535, 0)).1 = nI (fo (mc_dsf pn) kv (65535, 0)).1 := by rw [fo_s]; unfold mc_dsf; (first | rw [if_pos c_14] | rw [if_neg c_14] | rw [if_neg (by rw [c_14]; decide)] | skip); (first | rw [if_pos c_32] | rw [if_neg c_32] | rw [if_neg (by rw [c_32]; decide)] | skip); (first | rw [if_pos c_53] | rw [if_neg c_53] | rw [if_neg (by rw [c_53]; decide)] | skip); first | done | rfl | exact (nI_and _ _).symm | exact (ds_not hlt _).symm
          have e_3 : nI ((fo (mc_dsf pn) (kv + 1) (65535, 0)).2) = nI ((fo (mc_dsf pn) kv (65535, 0)).2) := by rw [fo_s]; unfold mc_dsf; (first | rw [if_pos c_14] | rw [if_neg c_14] | rw [if_neg (by rw [c_14]; decide)] | skip); (first | rw [if_pos c_32] | rw [if_neg c_32] | rw [if_neg (by rw [c_32]; decide)] | skip); (first | rw [if_pos c_53] | rw [if_neg c_53] | rw [if_neg (by rw [c_53]; decide)] | skip); try rfl
          have e_4 : nI (pn / 3 ^ (kv + 1)) = nI ((pn / 3 ^ kv) / 3) := by rw [Nat.pow_succ, Nat.div_div_eq_div_mul]
          exact ⟨by (try rw [e_2]); (try rw [e_3]); (try rw [e_4]); exact lv_sub hl [3, 4, 5, 6, 1, 0] rfl, by (try rw [e_2]); (try rw [e_3]); (try rw [e_4]); exact hP, by (try rw [e_2]); (try rw [e_3]); (try rw [e_4]); exact hD, hS, (ds_back hlt hle)⟩
        · refine lv_iload_n hx hb d_P_describe_56 rfl (lv_at hl 4 rfl) ?_
          refine va_gets (C := R_prod) (n := "INPUT_SETS") (d := "[I") hx hb hX.2.1 hS hown (hw_of hts mw_83) (fun _ h9 => h9) d_P_describe_57 ?_
          refine lv_iload hx hb d_P_describe_60 (lv_at hl 6 rfl) ?_
          refine k_ti (k := kv) hx hb hX.2.2 hS rfl (by omega) (by decide) rfl d_P_describe_62 ?_
          refine lv_iconst (v := (-1)) hx hb d_P_describe_63 (by decide) ?_
          refine lv_ixor hx hb d_P_describe_64 ?_
          refine lv_iand hx hb d_P_describe_65 ?_
          refine lv_istore_n (lv' := [(2, .int ((nI (fo (mc_dsf pn) kv (65535, 0)).1) &&& ((nI (iset kv)) ^^^ (-1)))), (4, .int (nI ((pn / 3 ^ kv) / 3))), (6, .int (nI ((pn / 3 ^ kv) % 3))), (0, .ref (ad 3)), (1, .int (nI pn)), (3, .int (nI ((fo (mc_dsf pn) kv (65535, 0)).2))), (5, .int (nI kv))]) hx hb d_P_describe_66 rfl hl (by decide) rfl (fun ls hl => ?_)
          refine lv_iinc (v := nI ((fo (mc_dsf pn) kv (65535, 0)).2 + 1)) (lv' := [(3, .int (nI ((fo (mc_dsf pn) kv (65535, 0)).2 + 1))), (2, .int ((nI (fo (mc_dsf pn) kv (65535, 0)).1) &&& ((nI (iset kv)) ^^^ (-1)))), (4, .int (nI ((pn / 3 ^ kv) / 3))), (6, .int (nI ((pn / 3 ^ kv) % 3))), (0, .ref (ad 3)), (1, .int (nI pn)), (5, .int (nI kv))]) hx hb d_P_describe_67 hl (k := 5) rfl (k_inc _) (by decide) rfl (fun ls hl => ?_)
          refine lv_iinc (v := nI (kv + 1)) (lv' := [(5, .int (nI (kv + 1))), (3, .int (nI ((fo (mc_dsf pn) kv (65535, 0)).2 + 1))), (2, .int ((nI (fo (mc_dsf pn) kv (65535, 0)).1) &&& ((nI (iset kv)) ^^^ (-1)))), (4, .int (nI ((pn / 3 ^ kv) / 3))), (6, .int (nI ((pn / 3 ^ kv) % 3))), (0, .ref (ad 3)), (1, .int (nI pn))]) hx hb d_P_describe_70 hl (k := 6) rfl (k_inc _) (by decide) rfl (fun ls hl => ?_)
          refine lv_goto (tgt := 11) hx hb d_P_describe_73 (by decide) ?_
          refine ihkv _ _ _ (by omega) ?_
          have e_5 : nI (fo (mc_dsf pn) (kv + 1) (65535, 0)).1 = (nI (fo (mc_dsf pn) kv (65535, 0)).1) &&& ((nI (iset kv)) ^^^ (-1)) := by rw [fo_s]; unfold mc_dsf; (first | rw [if_pos c_14] | rw [if_neg c_14] | rw [if_neg (by rw [c_14]; decide)] | skip); (first | rw [if_pos c_32] | rw [if_neg c_32] | rw [if_neg (by rw [c_32]; decide)] | skip); (first | rw [if_pos c_53] | rw [if_neg c_53] | rw [if_neg (by rw [c_53]; decide)] | skip); first | done | rfl | exact (nI_and _ _).symm | exact (ds_not hlt _).symm
          have e_6 : nI ((fo (mc_dsf pn) (kv + 1) (65535, 0)).2) = nI ((fo (mc_dsf pn) kv (65535, 0)).2 + 1) := by rw [fo_s]; unfold mc_dsf; (first | rw [if_pos c_14] | rw [if_neg c_14] | rw [if_neg (by rw [c_14]; decide)] | skip); (first | rw [if_pos c_32] | rw [if_neg c_32] | rw [if_neg (by rw [c_32]; decide)] | skip); (first | rw [if_pos c_53] | rw [if_neg c_53] | rw [if_neg (by rw [c_53]; decide)] | skip); try rfl
          have e_7 : nI (pn / 3 ^ (kv + 1)) = nI ((pn / 3 ^ kv) / 3) := by rw [Nat.pow_succ, Nat.div_div_eq_div_mul]
          exact ⟨by (try rw [e_5]); (try rw [e_6]); (try rw [e_7]); exact lv_sub hl [5, 6, 2, 1, 3, 0] rfl, by (try rw [e_5]); (try rw [e_6]); (try rw [e_7]); exact hP, by (try rw [e_5]); (try rw [e_6]); (try rw [e_7]); exact hD, hS, (ds_back hlt hle)⟩
      · refine lv_iload_n hx hb d_P_describe_35 rfl (lv_at hl 4 rfl) ?_
        refine va_gets (C := R_prod) (n := "INPUT_SETS") (d := "[I") hx hb hX.2.1 hS hown (hw_of hts mw_83) (fun _ h9 => h9) d_P_describe_36 ?_
        refine lv_iload hx hb d_P_describe_39 (lv_at hl 6 rfl) ?_
        refine k_ti (k := kv) hx hb hX.2.2 hS rfl (by omega) (by decide) rfl d_P_describe_41 ?_
        refine lv_iand hx hb d_P_describe_42 ?_
        refine lv_istore_n (lv' := [(2, .int ((nI (fo (mc_dsf pn) kv (65535, 0)).1) &&& (nI (iset kv)))), (4, .int (nI ((pn / 3 ^ kv) / 3))), (6, .int (nI ((pn / 3 ^ kv) % 3))), (0, .ref (ad 3)), (1, .int (nI pn)), (3, .int (nI ((fo (mc_dsf pn) kv (65535, 0)).2))), (5, .int (nI kv))]) hx hb d_P_describe_43 rfl hl (by decide) rfl (fun ls hl => ?_)
        refine lv_iinc (v := nI ((fo (mc_dsf pn) kv (65535, 0)).2 + 1)) (lv' := [(3, .int (nI ((fo (mc_dsf pn) kv (65535, 0)).2 + 1))), (2, .int ((nI (fo (mc_dsf pn) kv (65535, 0)).1) &&& (nI (iset kv)))), (4, .int (nI ((pn / 3 ^ kv) / 3))), (6, .int (nI ((pn / 3 ^ kv) % 3))), (0, .ref (ad 3)), (1, .int (nI pn)), (5, .int (nI kv))]) hx hb d_P_describe_44 hl (k := 5) rfl (k_inc _) (by decide) rfl (fun ls hl => ?_)
        refine lv_goto (tgt := 70) hx hb d_P_describe_47 (by decide) ?_
        refine lv_iinc (v := nI (kv + 1)) (lv' := [(5, .int (nI (kv + 1))), (3, .int (nI ((fo (mc_dsf pn) kv (65535, 0)).2 + 1))), (2, .int ((nI (fo (mc_dsf pn) kv (65535, 0)).1) &&& (nI (iset kv)))), (4, .int (nI ((pn / 3 ^ kv) / 3))), (6, .int (nI ((pn / 3 ^ kv) % 3))), (0, .ref (ad 3)), (1, .int (nI pn))]) hx hb d_P_describe_70 hl (k := 6) rfl (k_inc _) (by decide) rfl (fun ls hl => ?_)
        refine lv_goto (tgt := 11) hx hb d_P_describe_73 (by decide) ?_
        refine ihkv _ _ _ (by omega) ?_
        have e_8 : nI (fo (mc_dsf pn) (kv + 1) (65535, 0)).1 = (nI (fo (mc_dsf pn) kv (65535, 0)).1) &&& (nI (iset kv)) := by rw [fo_s]; unfold mc_dsf; (first | rw [if_pos c_14] | rw [if_neg c_14] | rw [if_neg (by rw [c_14]; decide)] | skip); (first | rw [if_pos c_32] | rw [if_neg c_32] | rw [if_neg (by rw [c_32]; decide)] | skip); first | done | rfl | exact (nI_and _ _).symm | exact (ds_not hlt _).symm
        have e_9 : nI ((fo (mc_dsf pn) (kv + 1) (65535, 0)).2) = nI ((fo (mc_dsf pn) kv (65535, 0)).2 + 1) := by rw [fo_s]; unfold mc_dsf; (first | rw [if_pos c_14] | rw [if_neg c_14] | rw [if_neg (by rw [c_14]; decide)] | skip); (first | rw [if_pos c_32] | rw [if_neg c_32] | rw [if_neg (by rw [c_32]; decide)] | skip); try rfl
        have e_10 : nI (pn / 3 ^ (kv + 1)) = nI ((pn / 3 ^ kv) / 3) := by rw [Nat.pow_succ, Nat.div_div_eq_div_mul]
        exact ⟨by (try rw [e_8]); (try rw [e_9]); (try rw [e_10]); exact lv_sub hl [5, 6, 2, 1, 3, 0] rfl, by (try rw [e_8]); (try rw [e_9]); (try rw [e_10]); exact hP, by (try rw [e_8]); (try rw [e_9]); (try rw [e_10]); exact hD, hS, (ds_back hlt hle)⟩
  · have hdone : True := trivial
    have e_11 : nI (fo (mc_dsf pn) 0 (65535, 0)).1 = 65535 := rfl
    have e_12 : nI ((fo (mc_dsf pn) 0 (65535, 0)).2) = 0 := rfl
    have e_13 : nI (pn / 3 ^ 0) = nI pn := by simp
    have e_14 : nI 0 = 0 := rfl
    exact ⟨by (try rw [e_11]); (try rw [e_12]); (try rw [e_13]); (try rw [e_14]); exact lv_sub hl [4, 5, 3, 2, 1, 0] rfl, by (try rw [e_11]); (try rw [e_12]); (try rw [e_13]); (try rw [e_14]); exact hP, by (try rw [e_11]); (try rw [e_12]); (try rw [e_13]); (try rw [e_14]); exact hD, hS, ⟨by show 65535 < 65536; decide, Nat.le_refl 0⟩⟩
set_option maxHeartbeats 4000000 in
set_option maxRecDepth 100000 in
theorem c_isCandidate (l : Launch) (dC : Nat → ClassId) (dI : Nat → Nat → Nat) (ad : Nat → Nat) (ca : Nat → ClassId) (tP tI : Nat) (c0 : Int32) (due : Int64) (lon : Int64) (oop : Nat → Int32) (pn : Nat) (hpn : pn < 81) : Met l y_T_isCandidate w_T_isCandidate ({ frames := 1, cells := 0, slots := 0, locals := 23 }) (kr_PX tP tI [.ref (ad 2), .int (nI pn)] (dC, dI) vC [(ad 2, eT ad c0 due lon), (ad 14, eI 81 (ca 14) oop)] [(ca 14, .int)]) (vp_Si (fun r => r = if (mc_isc oop pn) = true then 1 else 0)) 0 0 (fun _ => False) := by
  refine Met.ofW (cc := b_T_isCandidate) (maxL := 5) (ret := (some .boolean)) (by decide) rfl ?_
  intro p e s m args below meth c s₁ B hml hv
  obtain ⟨⟨rfl, hP, hK⟩, hX⟩ := hv
  have hS : va_S (fun _ => False) s.heap s.heap [] := va_S.rf
  have hx := B.exec
  have hb := B.bytes
  have hr := B.returns
  have hts := atoms_spec (ws := w_T_isCandidate) B.pre
  have hlocks := B.notSynchronized
  have hown : s.vm.findClass R_T = some m.cls := findClass_of_methodNamed B.named
  have hl := lv_entry ([.ref (ad 2), .int (nI pn)]) (n := 5) (Nat.le_of_ble_eq_true rfl)
  rw [lg_entry_eq]
  generalize (lg_sl ([.ref (ad 2), .int (nI pn)]) ++ List.replicate (5 - (lg_sl ([.ref (ad 2), .int (nI pn)])).length) Slot.unset).toArray = ls at hl ⊢
  have hl : lv_has ls 5 [(0, .ref (ad 2)), (1, .int (nI pn))] := hl
  refine lv_aload_n hx hb d_T_isCandidate_0 rfl (lv_at hl 0 rfl) ?_
  refine va_get (D := (dC, dI)) (ci := 0) (v := .ref (ad 14)) (C := R_T) (T := F_T) (N := 10) hx hb hts (hin_of in_T) hown hK hP 0 rfl rfl 9 (by decide) (hw_of hts mw_116) (fun _ h9 => h9) rfl d_T_isCandidate_1 ?_
  refine lv_iload_n hx hb d_T_isCandidate_4 rfl (lv_at hl 1 rfl) ?_
  refine k_iald (k := pn) hx hb hK hP 1 0 rfl rfl rfl (by omega) (by decide) d_T_isCandidate_5 ?_
  refine lv_istore_n (lv' := [(2, .int (oop pn)), (0, .ref (ad 2)), (1, .int (nI pn))]) hx hb d_T_isCandidate_6 rfl hl (by decide) rfl (fun ls hl => ?_)
  refine lv_iload_n hx hb d_T_isCandidate_7 rfl (lv_at hl 0 rfl) ?_
  refine lv_if_ne (tgt := 13) hx hb d_T_isCandidate_8 (by decide) (fun c_8 => ?_) (fun c_8 => ?_)
  · refine lv_iconst (v := 0) hx hb d_T_isCandidate_13 (by decide) ?_
    refine lv_istore_n (lv' := [(3, .int 0), (2, .int (oop pn)), (0, .ref (ad 2)), (1, .int (nI pn))]) hx hb d_T_isCandidate_14 rfl hl (by decide) rfl (fun ls hl => ?_)
    refine k_loopR (fun kv ls => lv_has ls 5 [(0, .ref (ad 2)), (1, .int (nI pn)), (2, .int (oop pn)), (3, .int (nI kv))] ∧ ∀ a, a < kv → mc_wideP oop pn a = false) 4 ?_ 0 _ (Nat.zero_le _) ?_
    · intro kv ls hikv hI ihkv
      obtain ⟨hl, hno⟩ := hI
      refine lv_iload_n hx hb d_T_isCandidate_15 rfl (lv_at hl 3 rfl) ?_
      refine lv_iconst (v := 4) hx hb d_T_isCandidate_16 (by decide) ?_
      refine k_ge (a := kv) (b := 4) (tgt := 57) hx hb rfl rfl (by omega) (by omega) d_T_isCandidate_17 (by decide) (fun c_17 => ?_) (fun c_17 => ?_)
      · obtain rfl : 4 = kv := by omega
        refine lv_iconst (v := 1) hx hb d_T_isCandidate_57 (by decide) ?_
        exact W.zret (v := 1) hx hb hr rfl (fun t ht hW => ⟨1, rfl, by unfold mc_isc; rw [decide_eq_false c_8, exn_false hno]; rfl, ht⟩) (fun q h => by cases h) d_T_isCandidate_58
      · refine lv_iload_n hx hb d_T_isCandidate_20 rfl (lv_at hl 1 rfl) ?_
        refine lv_iload_n hx hb d_T_isCandidate_21 rfl (lv_at hl 3 rfl) ?_
        have hPc := hP.sub (ws' := []) [] rfl
        have hKc := hK.sub (tys' := []) [] rfl
        refine vp_callSi (W.runS (As := [.int (nI pn), .int (nI kv)]) (rest := []) ⟨hx, hb, hml, hown, hts⟩ (c_withoutPart l dC dI ad ca tP tI pn kv (by omega) (by omega)) (va_cwS 2 hts (gd_S mw_231 mw_232 mw_43 mw_233) rfl rfl rfl (by decide +kernel) ⟨Nat.le_of_ble_eq_true rfl, Nat.le_of_ble_eq_true rfl⟩) (kr_SX hKc hPc hX hS) rfl rfl hl.1 rfl (lv_room (Nat.le_of_ble_eq_true rfl)) d_T_isCandidate_22 ⟨Nat.zero_le _, Nat.zero_le _⟩) (fun r hq => ?_)
        subst hq
        refine lv_istore (lv' := [(4, .int (nI (wop pn kv))), (0, .ref (ad 2)), (1, .int (nI pn)), (2, .int (oop pn)), (3, .int (nI kv))]) hx hb d_T_isCandidate_25 hl (by decide) rfl (fun ls hl => ?_)
        have hwl := wop_le2 pn kv
        refine lv_iload hx hb d_T_isCandidate_27 (lv_at hl 0 rfl) ?_
        refine lv_iload_n hx hb d_T_isCandidate_29 rfl (lv_at hl 2 rfl) ?_
        refine k_eq (a := wop pn kv) (b := pn) (tgt := 51) hx hb rfl rfl (by omega) (by omega) d_T_isCandidate_30 (by decide) (fun c_30 => ?_) (fun c_30 => ?_)
        · refine lv_iinc (v := nI (kv + 1)) (lv' := [(3, .int (nI (kv + 1))), (4, .int (nI (wop pn kv))), (0, .ref (ad 2)), (1, .int (nI pn)), (2, .int (oop pn))]) hx hb d_T_isCandidate_51 hl (k := 4) rfl (k_inc _) (by decide) rfl (fun ls hl => ?_)
          refine lv_goto (tgt := 15) hx hb d_T_isCandidate_54 (by decide) ?_
          refine ihkv _ (by omega) ?_
          exact ⟨lv_sub hl [2, 3, 4, 0] rfl, lt_s hno (by unfold mc_wideP; (first | rw [decide_eq_true c_8] | rw [decide_eq_false c_8] | rw [decide_eq_false (Nat.not_lt.mpr c_8)] | rw [decide_eq_false (Nat.not_le.mpr c_8)] | rw [c_8] | skip); (first | rw [decide_eq_true c_17] | rw [decide_eq_false c_17] | rw [decide_eq_false (Nat.not_lt.mpr c_17)] | rw [decide_eq_false (Nat.not_le.mpr c_17)] | rw [c_17] | skip); (first | rw [decide_eq_true c_30] | rw [decide_eq_false c_30] | rw [decide_eq_false (Nat.not_lt.mpr c_30)] | rw [decide_eq_false (Nat.not_le.mpr c_30)] | rw [c_30] | skip); simp)⟩
        · refine lv_iload hx hb d_T_isCandidate_33 (lv_at hl 0 rfl) ?_
          refine lv_if_lt (tgt := 51) hx hb d_T_isCandidate_35 (by decide) (fun h => absurd h (nI_pos (by omega))) (fun _ => ?_)
          refine lv_aload_n hx hb d_T_isCandidate_38 rfl (lv_at hl 1 rfl) ?_
          refine va_get (D := (dC, dI)) (ci := 0) (v := .ref (ad 14)) (C := R_T) (T := F_T) (N := 10) hx hb hts (hin_of in_T) hown hK hP 0 rfl rfl 9 (by decide) (hw_of hts mw_116) (fun _ h9 => h9) rfl d_T_isCandidate_39 ?_
          refine lv_iload hx hb d_T_isCandidate_42 (lv_at hl 0 rfl) ?_
          refine k_iald (k := wop pn kv) hx hb hK hP 1 0 rfl rfl rfl (Nat.lt_of_le_of_lt (wop_le2 pn kv) hpn) (by decide) d_T_isCandidate_44 ?_
          refine lv_iload_n hx hb d_T_isCandidate_45 rfl (lv_at hl 3 rfl) ?_
          refine lv_icmp_ne (tgt := 51) hx hb d_T_isCandidate_46 (by decide) (fun c_46 => ?_) (fun c_46 => ?_)
          · refine lv_iinc (v := nI (kv + 1)) (lv' := [(3, .int (nI (kv + 1))), (4, .int (nI (wop pn kv))), (0, .ref (ad 2)), (1, .int (nI pn)), (2, .int (oop pn))]) hx hb d_T_isCandidate_51 hl (k := 4) rfl (k_inc _) (by decide) rfl (fun ls hl => ?_)
            refine lv_goto (tgt := 15) hx hb d_T_isCandidate_54 (by decide) ?_
            refine ihkv _ (by omega) ?_
            exact ⟨lv_sub hl [2, 3, 4, 0] rfl, lt_s hno (by unfold mc_wideP; (first | rw [decide_eq_true c_8] | rw [decide_eq_false c_8] | rw [decide_eq_false (Nat.not_lt.mpr c_8)] | rw [decide_eq_false (Nat.not_le.mpr c_8)] | rw [c_8] | skip); (first | rw [decide_eq_true c_17] | rw [decide_eq_false c_17] | rw [decide_eq_false (Nat.not_lt.mpr c_17)] | rw [decide_eq_false (Nat.not_le.mpr c_17)] | rw [c_17] | skip); (first | rw [decide_eq_true c_30] | rw [decide_eq_false c_30] | rw [decide_eq_false (Nat.not_lt.mpr c_30)] | rw [decide_eq_false (Nat.not_le.mpr c_30)] | rw [c_30] | skip); (first | rw [decide_eq_true c_46] | rw [decide_eq_false c_46] | rw [decide_eq_false (Nat.not_lt.mpr c_46)] | rw [decide_eq_false (Nat.not_le.mpr c_46)] | rw [c_46] | skip); simp)⟩
          · refine lv_iconst (v := 0) hx hb d_T_isCandidate_49 (by decide) ?_
            exact W.zret (v := 0) hx hb hr rfl (fun t ht hW => ⟨0, rfl, by unfold mc_isc; rw [exn_true (j := kv) (by omega) (by unfold mc_wideP; (first | rw [decide_eq_true c_8] | rw [decide_eq_false c_8] | rw [decide_eq_false (Nat.not_lt.mpr c_8)] | rw [decide_eq_false (Nat.not_le.mpr c_8)] | rw [c_8] | skip); (first | rw [decide_eq_true c_17] | rw [decide_eq_false c_17] | rw [decide_eq_false (Nat.not_lt.mpr c_17)] | rw [decide_eq_false (Nat.not_le.mpr c_17)] | rw [c_17] | skip); (first | rw [decide_eq_true c_30] | rw [decide_eq_false c_30] | rw [decide_eq_false (Nat.not_lt.mpr c_30)] | rw [decide_eq_false (Nat.not_le.mpr c_30)] | rw [c_30] | skip); (first | rw [decide_eq_true c_46] | rw [decide_eq_false c_46] | rw [decide_eq_false (Nat.not_lt.mpr c_46)] | rw [decide_eq_false (Nat.not_le.mpr c_46)] | rw [c_46] | skip); rfl), Bool.not_true, Bool.and_false]; rfl, ht⟩) (fun q h => by cases h) d_T_isCandidate_50
    · have hdone : True := trivial
      have e_1 : nI 0 = 0 := rfl
      exact ⟨by (try rw [e_1]); exact lv_sub hl [2, 3, 1, 0] rfl, lt_0⟩
  · refine lv_iconst (v := 0) hx hb d_T_isCandidate_11 (by decide) ?_
    exact W.zret (v := 0) hx hb hr rfl (fun t ht hW => ⟨0, rfl, by unfold mc_isc; rw [decide_eq_true c_8]; rfl, ht⟩) (fun q h => by cases h) d_T_isCandidate_12
