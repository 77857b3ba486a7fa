set_option maxHeartbeats 4000000 in
set_option maxRecDepth 100000 in
theorem c_m_isLess (l : Launch) (dC : Nat → ClassId) (dI : Nat → Nat → Nat) (ad : Nat → Nat) (ca : Nat → ClassId) (lo : Int64) (hi : Int64) (ol : Int64) (oh : Int64) : Met l y_M_isLess w_M_isLess ({ frames := 0, cells := 0, slots := 0, locals := 0 }) (kr_P [.long lo, .long hi, .long ol, .long oh] (dC, dI) vC [] []) (vp_Si (fun r => r = (if (mo_less lo hi ol oh) = true then (1 : Int32) else 0))) 0 0 (fun _ => False) := by
  refine Met.ofW (cc := b_M_isLess) (maxL := 10) (ret := (some .boolean)) (by decide) rfl ?_
  intro p e s m args below meth c s₁ B hml hv
  obtain ⟨rfl, hP, hK⟩ := hv
  have hx := B.exec
  have hb := B.bytes
  have hr := B.returns
  have hts := atoms_spec (ws := w_M_isLess) B.pre
  have hlocks := B.notSynchronized
  have hown : s.vm.findClass R_M = some m.cls := findClass_of_methodNamed B.named
  have hl := lv_entry ([.long lo, .long hi, .long ol, .long oh]) (n := 10) (Nat.le_of_ble_eq_true rfl)
  rw [lg_entry_eq]
  generalize (lg_sl ([.long lo, .long hi, .long ol, .long oh]) ++ List.replicate (10 - (lg_sl ([.long lo, .long hi, .long ol, .long oh])).length) Slot.unset).toArray = ls at hl ⊢
  have hl : lv_has ls 10 [(0, .long lo), (2, .long hi), (4, .long ol), (6, .long oh)] := hl
  refine lv_lload_n hx hb d_M_isLess_0 rfl (lv_at hl 0 rfl) ?_
  refine lv_lload hx hb d_M_isLess_1 (lv_at hl 2 rfl) ?_
  refine lv_lxor hx hb d_M_isLess_3 ?_
  refine lv_lstore (lv' := [(8, .long (lo ^^^ ol)), (0, .long lo), (2, .long hi), (4, .long ol), (6, .long oh)]) hx hb d_M_isLess_4 hl (by decide) rfl (fun ls hl => ?_)
  refine lv_lload hx hb d_M_isLess_6 (lv_at hl 0 rfl) ?_
  refine lv_lconst (v := 0) hx hb d_M_isLess_8 rfl ?_
  refine k_leq (tgt := 32) hx hb d_M_isLess_9 d_M_isLess_10 (by decide) (fun c_9 => ?_) (fun c_9 => ?_)
  · refine lv_lload_n hx hb d_M_isLess_32 rfl (lv_at hl 2 rfl) ?_
    refine lv_lload hx hb d_M_isLess_33 (lv_at hl 4 rfl) ?_
    refine lv_lxor hx hb d_M_isLess_35 ?_
    refine lv_lstore (lv' := [(8, .long (hi ^^^ oh)), (0, .long lo), (2, .long hi), (4, .long ol), (6, .long oh)]) hx hb d_M_isLess_36 hl (by decide) rfl (fun ls hl => ?_)
    refine lv_lload_n hx hb d_M_isLess_38 rfl (lv_at hl 2 rfl) ?_
    refine lv_lload hx hb d_M_isLess_39 (lv_at hl 0 rfl) ?_
    refine lv_land hx hb d_M_isLess_41 ?_
    refine lv_lload hx hb d_M_isLess_42 (lv_at hl 0 rfl) ?_
    refine lv_lneg hx hb d_M_isLess_44 ?_
    refine lv_land hx hb d_M_isLess_45 ?_
    refine lv_lconst (v := 0) hx hb d_M_isLess_46 rfl ?_
    refine k_leq (tgt := 55) hx hb d_M_isLess_47 d_M_isLess_48 (by decide) (fun c_47 => ?_) (fun c_47 => ?_)
    · refine lv_iconst (v := 0) hx hb d_M_isLess_55 (by decide) ?_
      exact W.zret (v := 0) hx hb hr rfl (fun t ht hW => ⟨0, rfl, by first | (rw [mo_less_e c_9]; (first | rw [decide_eq_true c_9] | rw [decide_eq_false c_9] | rw [decide_eq_false (Nat.not_lt.mpr c_9)] | rw [decide_eq_false (Nat.not_le.mpr c_9)] | rw [c_9] | skip); (first | rw [decide_eq_true c_47] | rw [decide_eq_false c_47] | rw [decide_eq_false (Nat.not_lt.mpr c_47)] | rw [decide_eq_false (Nat.not_le.mpr c_47)] | rw [c_47] | skip); rfl) | (rw [mo_less_n c_9]; (first | rw [decide_eq_true c_9] | rw [decide_eq_false c_9] | rw [decide_eq_false (Nat.not_lt.mpr c_9)] | rw [decide_eq_false (Nat.not_le.mpr c_9)] | rw [c_9] | skip); (first | rw [decide_eq_true c_47] | rw [decide_eq_false c_47] | rw [decide_eq_false (Nat.not_lt.mpr c_47)] | rw [decide_eq_false (Nat.not_le.mpr c_47)] | rw [c_47] | skip); rfl), ht⟩) (fun q h => by cases h) d_M_isLess_56
    · refine lv_iconst (v := 1) hx hb d_M_isLess_51 (by decide) ?_
      refine lv_goto (tgt := 56) hx hb d_M_isLess_52 (by decide) ?_
      exact W.zret (v := 1) hx hb hr rfl (fun t ht hW => ⟨1, rfl, by first | (rw [mo_less_e c_9]; (first | rw [decide_eq_true c_9] | rw [decide_eq_false c_9] | rw [decide_eq_false (Nat.not_lt.mpr c_9)] | rw [decide_eq_false (Nat.not_le.mpr c_9)] | rw [c_9] | skip); (first | rw [decide_eq_true c_47] | rw [decide_eq_false c_47] | rw [decide_eq_false (Nat.not_lt.mpr c_47)] | rw [decide_eq_false (Nat.not_le.mpr c_47)] | rw [c_47] | skip); rfl) | (rw [mo_less_n c_9]; (first | rw [decide_eq_true c_9] | rw [decide_eq_false c_9] | rw [decide_eq_false (Nat.not_lt.mpr c_9)] | rw [decide_eq_false (Nat.not_le.mpr c_9)] | rw [c_9] | skip); (first | rw [decide_eq_true c_47] | rw [decide_eq_false c_47] | rw [decide_eq_false (Nat.not_lt.mpr c_47)] | rw [decide_eq_false (Nat.not_le.mpr c_47)] | rw [c_47] | skip); rfl), ht⟩) (fun q h => by cases h) d_M_isLess_56
  · refine lv_lload_n hx hb d_M_isLess_13 rfl (lv_at hl 1 rfl) ?_
    refine lv_lload hx hb d_M_isLess_14 (lv_at hl 0 rfl) ?_
    refine lv_land hx hb d_M_isLess_16 ?_
    refine lv_lload hx hb d_M_isLess_17 (lv_at hl 0 rfl) ?_
    refine lv_lneg hx hb d_M_isLess_19 ?_
    refine lv_land hx hb d_M_isLess_20 ?_
    refine lv_lconst (v := 0) hx hb d_M_isLess_21 rfl ?_
    refine k_leq (tgt := 30) hx hb d_M_isLess_22 d_M_isLess_23 (by decide) (fun c_22 => ?_) (fun c_22 => ?_)
    · refine lv_iconst (v := 0) hx hb d_M_isLess_30 (by decide) ?_
      exact W.zret (v := 0) hx hb hr rfl (fun t ht hW => ⟨0, rfl, by first | (rw [mo_less_e c_9]; (first | rw [decide_eq_true c_9] | rw [decide_eq_false c_9] | rw [decide_eq_false (Nat.not_lt.mpr c_9)] | rw [decide_eq_false (Nat.not_le.mpr c_9)] | rw [c_9] | skip); (first | rw [decide_eq_true c_22] | rw [decide_eq_false c_22] | rw [decide_eq_false (Nat.not_lt.mpr c_22)] | rw [decide_eq_false (Nat.not_le.mpr c_22)] | rw [c_22] | skip); rfl) | (rw [mo_less_n c_9]; (first | rw [decide_eq_true c_9] | rw [decide_eq_false c_9] | rw [decide_eq_false (Nat.not_lt.mpr c_9)] | rw [decide_eq_false (Nat.not_le.mpr c_9)] | rw [c_9] | skip); (first | rw [decide_eq_true c_22] | rw [decide_eq_false c_22] | rw [decide_eq_false (Nat.not_lt.mpr c_22)] | rw [decide_eq_false (Nat.not_le.mpr c_22)] | rw [c_22] | skip); rfl), ht⟩) (fun q h => by cases h) d_M_isLess_31
    · refine lv_iconst (v := 1) hx hb d_M_isLess_26 (by decide) ?_
      refine lv_goto (tgt := 31) hx hb d_M_isLess_27 (by decide) ?_
      exact W.zret (v := 1) hx hb hr rfl (fun t ht hW => ⟨1, rfl, by first | (rw [mo_less_e c_9]; (first | rw [decide_eq_true c_9] | rw [decide_eq_false c_9] | rw [decide_eq_false (Nat.not_lt.mpr c_9)] | rw [decide_eq_false (Nat.not_le.mpr c_9)] | rw [c_9] | skip); (first | rw [decide_eq_true c_22] | rw [decide_eq_false c_22] | rw [decide_eq_false (Nat.not_lt.mpr c_22)] | rw [decide_eq_false (Nat.not_le.mpr c_22)] | rw [c_22] | skip); rfl) | (rw [mo_less_n c_9]; (first | rw [decide_eq_true c_9] | rw [decide_eq_false c_9] | rw [decide_eq_false (Nat.not_lt.mpr c_9)] | rw [decide_eq_false (Nat.not_le.mpr c_9)] | rw [c_9] | skip); (first | rw [decide_eq_true c_22] | rw [decide_eq_false c_22] | rw [decide_eq_false (Nat.not_lt.mpr c_22)] | rw [decide_eq_false (Nat.not_le.mpr c_22)] | rw [c_22] | skip); rfl), ht⟩) (fun q h => by cases h) d_M_isLess_31
set_option maxHeartbeats 4000000 in
set_option maxRecDepth 100000 in
theorem c_m_wait (l : Launch) (dC : Nat → ClassId) (dI : Nat → Nat → Nat) (ad : Nat → Nat) (ca : Nat → ClassId) (thr : Int32) (inn : Int32) (oun : Int32) (mn : Nat) (kno : Int32) (cho : Int32) (kep : Int32) (de : Nat) (cam : Int32) (csz : Int32) (clo : Int64) (chi : Int64) (cov : Nat → Int32) (wl : Nat → Int32) (wp : Nat → Int32) (wn : Nat → Int32) (wr : Nat → Int32) (bz : Nat → Int32) (lf : Int32) (rr : Int32) (hmn : mn ≤ 81) (hde : de < 40) (sz : Nat) : Met l y_M_wait w_M_wait ({ frames := 1, cells := 0, slots := 0, locals := 26 }) (kw_P [.ref (ad 20), .int lf, .int rr] sz (dC, dI) vC [(ad 20, eM ad thr inn oun (nI mn) kno cho kep (nI de) cam csz clo chi), (ad 27, eI 81 (ca 27) cov), (ad 35, eI 40 (ca 35) wl), (ad 36, eI 40 (ca 36) wp), (ad 37, eI 40 (ca 37) wn), (ad 38, eI 40 (ca 38) wr), (ad 39, eI 40 (ca 39) bz)] [(ca 27, .int), (ca 35, .int), (ca 36, .int), (ca 37, .int), (ca 38, .int), (ca 39, .int)]) (kw_Qv (dC, dI) vC [(ca 27, .int), (ca 35, .int), (ca 36, .int), (ca 37, .int), (ca 38, .int), (ca 39, .int)] (va_A [(ad 20, eM ad thr inn oun (nI mn) kno cho kep (nI de) cam csz clo chi), (ad 27, eI 81 (ca 27) cov), (ad 35, eI 40 (ca 35) wl), (ad 36, eI 40 (ca 36) wp), (ad 37, eI 40 (ca 37) wn), (ad 38, eI 40 (ca 38) wr), (ad 39, eI 40 (ca 39) bz)] sz) [(ad 20, eM ad thr inn oun (nI mn) kno cho kep (nI (de + 1)) cam csz clo chi), (ad 27, eI 81 (ca 27) cov), (ad 35, eI 40 (ca 35) (upd wl de lf)), (ad 36, eI 40 (ca 36) (upd wp de (mo_po lf cov mn))), (ad 37, eI 40 (ca 37) (upd wn de 0)), (ad 38, eI 40 (ca 38) (upd wr de rr)), (ad 39, eI 40 (ca 39) (upd bz de (-1)))]) 0 0 (va_A [(ad 20, eM ad thr inn oun (nI mn) kno cho kep (nI de) cam csz clo chi), (ad 27, eI 81 (ca 27) cov), (ad 35, eI 40 (ca 35) wl), (ad 36, eI 40 (ca 36) wp), (ad 37, eI 40 (ca 37) wn), (ad 38, eI 40 (ca 38) wr), (ad 39, eI 40 (ca 39) bz)] sz) := by
  refine Met.ofW (cc := b_M_wait) (maxL := 3) (ret := none) (by decide) rfl ?_
  intro p e s m args below meth c s₁ B hml hv
  obtain ⟨rfl, hsz, hP, hK, hD0⟩ := hv
  have hx := B.exec
  have hb := B.bytes
  have hr := B.returns
  have hts := atoms_spec (ws := w_M_wait) B.pre
  have hlocks := B.notSynchronized
  have hown : s.vm.findClass R_M = some m.cls := findClass_of_methodNamed B.named
  subst hsz
  have hD := hD0.self (sz := s.heap.size)
  generalize hAe : va_A [(ad 20, eM ad thr inn oun (nI mn) kno cho kep (nI de) cam csz clo chi), (ad 27, eI 81 (ca 27) cov), (ad 35, eI 40 (ca 35) wl), (ad 36, eI 40 (ca 36) wp), (ad 37, eI 40 (ca 37) wn), (ad 38, eI 40 (ca 38) wr), (ad 39, eI 40 (ca 39) bz)] s.heap.size = A at hD ⊢
  have hA : ∀ q : Nat, s.heap.size ≤ q → A q := fun q h => by rw [← hAe]; exact Or.inr h
  have hS : va_S A s.heap s.heap [] := va_S.rf
  have hP : va_P (dC, dI) vC [(ad 20, eM ad thr inn oun (nI mn) kno cho kep (nI de) cam csz clo chi), (ad 27, eI 81 (ca 27) cov), (ad 35, eI 40 (ca 35) wl), (ad 36, eI 40 (ca 36) wp), (ad 37, eI 40 (ca 37) wn), (ad 38, eI 40 (ca 38) wr), (ad 39, eI 40 (ca 39) bz)] s.heap := hP
  have hl := lv_entry ([.ref (ad 20), .int lf, .int rr]) (n := 3) (Nat.le_of_ble_eq_true rfl)
  rw [lg_entry_eq]
  generalize (lg_sl ([.ref (ad 20), .int lf, .int rr]) ++ List.replicate (3 - (lg_sl ([.ref (ad 20), .int lf, .int rr])).length) Slot.unset).toArray = ls at hl ⊢
  have hl : lv_has ls 3 [(0, .ref (ad 20)), (1, .int lf), (2, .int rr)] := hl
  refine lv_aload_n hx hb d_M_wait_0 rfl (lv_at hl 0 rfl) ?_
  refine va_get (D := (dC, dI)) (ci := 4) (v := .ref (ad 35)) (C := R_M) (T := F_M) (N := 33) hx hb hts (hin_of in_M) hown hK hP 0 rfl rfl 21 (by decide) (hw_of hts mw_490) (fun _ h9 => h9) rfl d_M_wait_1 ?_
  refine lv_aload_n hx hb d_M_wait_4 rfl (lv_at hl 0 rfl) ?_
  refine va_get (D := (dC, dI)) (ci := 4) (v := .int (nI de)) (C := R_M) (T := F_M) (N := 33) hx hb hts (hin_of in_M) hown hK hP 0 rfl rfl 28 (by decide) (hw_of hts mw_497) (fun _ h9 => h9) rfl d_M_wait_5 ?_
  refine lv_iload_n hx hb d_M_wait_8 rfl (lv_at hl 1 rfl) ?_
  refine k_iast (k := de) hx hb hK hP hD hS 2 1 rfl rfl rfl (by omega) (by decide) d_M_wait_9 (fun H locs hP hD hS => ?_)
  have hP : va_P (dC, dI) vC [(ad 20, eM ad thr inn oun (nI mn) kno cho kep (nI de) cam csz clo chi), (ad 27, eI 81 (ca 27) cov), (ad 35, eI 40 (ca 35) (upd wl de lf)), (ad 36, eI 40 (ca 36) wp), (ad 37, eI 40 (ca 37) wn), (ad 38, eI 40 (ca 38) wr), (ad 39, eI 40 (ca 39) bz)] H := hP
  have hD : va_D A [(ad 20, eM ad thr inn oun (nI mn) kno cho kep (nI de) cam csz clo chi), (ad 27, eI 81 (ca 27) cov), (ad 35, eI 40 (ca 35) (upd wl de lf)), (ad 36, eI 40 (ca 36) wp), (ad 37, eI 40 (ca 37) wn), (ad 38, eI 40 (ca 38) wr), (ad 39, eI 40 (ca 39) bz)] := hD
  refine lv_aload_n hx hb d_M_wait_10 rfl (lv_at hl 0 rfl) ?_
  refine va_get (D := (dC, dI)) (ci := 4) (v := .ref (ad 38)) (C := R_M) (T := F_M) (N := 33) hx hb hts (hin_of in_M) hown hK hP 0 rfl rfl 24 (by decide) (hw_of hts mw_493) (fun _ h9 => h9) rfl d_M_wait_11 ?_
  refine lv_aload_n hx hb d_M_wait_14 rfl (lv_at hl 0 rfl) ?_
  refine va_get (D := (dC, dI)) (ci := 4) (v := .int (nI de)) (C := R_M) (T := F_M) (N := 33) hx hb hts (hin_of in_M) hown hK hP 0 rfl rfl 28 (by decide) (hw_of hts mw_497) (fun _ h9 => h9) rfl d_M_wait_15 ?_
  refine lv_iload_n hx hb d_M_wait_18 rfl (lv_at hl 2 rfl) ?_
  refine k_iast (k := de) hx hb hK hP hD hS 5 4 rfl rfl rfl (by omega) (by decide) d_M_wait_19 (fun H locs hP hD hS => ?_)
  have hP : va_P (dC, dI) vC [(ad 20, eM ad thr inn oun (nI mn) kno cho kep (nI de) cam csz clo chi), (ad 27, eI 81 (ca 27) cov), (ad 35, eI 40 (ca 35) (upd wl de lf)), (ad 36, eI 40 (ca 36) wp), (ad 37, eI 40 (ca 37) wn), (ad 38, eI 40 (ca 38) (upd wr de rr)), (ad 39, eI 40 (ca 39) bz)] H := hP
  have hD : va_D A [(ad 20, eM ad thr inn oun (nI mn) kno cho kep (nI de) cam csz clo chi), (ad 27, eI 81 (ca 27) cov), (ad 35, eI 40 (ca 35) (upd wl de lf)), (ad 36, eI 40 (ca 36) wp), (ad 37, eI 40 (ca 37) wn), (ad 38, eI 40 (ca 38) (upd wr de rr)), (ad 39, eI 40 (ca 39) bz)] := hD
  refine lv_aload_n hx hb d_M_wait_20 rfl (lv_at hl 0 rfl) ?_
  refine va_get (D := (dC, dI)) (ci := 4) (v := .ref (ad 36)) (C := R_M) (T := F_M) (N := 33) hx hb hts (hin_of in_M) hown hK hP 0 rfl rfl 22 (by decide) (hw_of hts mw_491) (fun _ h9 => h9) rfl d_M_wait_21 ?_
  refine lv_aload_n hx hb d_M_wait_24 rfl (lv_at hl 0 rfl) ?_
  refine va_get (D := (dC, dI)) (ci := 4) (v := .int (nI de)) (C := R_M) (T := F_M) (N := 33) hx hb hts (hin_of in_M) hown hK hP 0 rfl rfl 28 (by decide) (hw_of hts mw_497) (fun _ h9 => h9) rfl d_M_wait_25 ?_
  refine lv_aload_n hx hb d_M_wait_28 rfl (lv_at hl 0 rfl) ?_
  refine lv_iload_n hx hb d_M_wait_29 rfl (lv_at hl 1 rfl) ?_
  have hPc := hP.sub (ws' := [(ad 20, eM ad thr inn oun (nI mn) kno cho kep (nI de) cam csz clo chi), (ad 27, eI 81 (ca 27) cov)]) [0, 1] rfl
  have hKc := hK.sub (tys' := [(ca 27, .int)]) [0] rfl
  refine vp_callSi (W.runV (As := [.int lf]) (rest := [.int (nI de), .ref (ad 36)]) ⟨hx, hb, hml, hown, hts⟩ (c_m_pointOf l dC dI ad ca thr inn oun mn kno cho kep (nI de) cam csz clo chi cov lf (by omega)) (cwV 1 hts (gd_V mw_639 mw_641 mw_32 mw_44 mw_642) rfl rfl rfl (by decide +kernel) ⟨Nat.le_of_ble_eq_true rfl, Nat.le_of_ble_eq_true rfl⟩) (kr_V (q0 := 0) (ci := 4) hKc hPc rfl rfl) rfl rfl hl.1 rfl (lv_room (Nat.le_of_ble_eq_true rfl)) d_M_wait_30 ⟨Nat.zero_le _, Nat.zero_le _⟩) (fun r hq => ?_)
  subst hq
  refine k_iast (k := de) hx hb hK hP hD hS 3 2 rfl rfl rfl (by omega) (by decide) d_M_wait_33 (fun H locs hP hD hS => ?_)
  have hP : va_P (dC, dI) vC [(ad 20, eM ad thr inn oun (nI mn) kno cho kep (nI de) cam csz clo chi), (ad 27, eI 81 (ca 27) cov), (ad 35, eI 40 (ca 35) (upd wl de lf)), (ad 36, eI 40 (ca 36) (upd wp de (mo_po lf cov mn))), (ad 37, eI 40 (ca 37) wn), (ad 38, eI 40 (ca 38) (upd wr de rr)), (ad 39, eI 40 (ca 39) bz)] H := hP
  have hD : va_D A [(ad 20, eM ad thr inn oun (nI mn) kno cho kep (nI de) cam csz clo chi), (ad 27, eI 81 (ca 27) cov), (ad 35, eI 40 (ca 35) (upd wl de lf)), (ad 36, eI 40 (ca 36) (upd wp de (mo_po lf cov mn))), (ad 37, eI 40 (ca 37) wn), (ad 38, eI 40 (ca 38) (upd wr de rr)), (ad 39, eI 40 (ca 39) bz)] := hD
  refine lv_aload_n hx hb d_M_wait_34 rfl (lv_at hl 0 rfl) ?_
  refine va_get (D := (dC, dI)) (ci := 4) (v := .ref (ad 37)) (C := R_M) (T := F_M) (N := 33) hx hb hts (hin_of in_M) hown hK hP 0 rfl rfl 23 (by decide) (hw_of hts mw_492) (fun _ h9 => h9) rfl d_M_wait_35 ?_
  refine lv_aload_n hx hb d_M_wait_38 rfl (lv_at hl 0 rfl) ?_
  refine va_get (D := (dC, dI)) (ci := 4) (v := .int (nI de)) (C := R_M) (T := F_M) (N := 33) hx hb hts (hin_of in_M) hown hK hP 0 rfl rfl 28 (by decide) (hw_of hts mw_497) (fun _ h9 => h9) rfl d_M_wait_39 ?_
  refine lv_iconst (v := 0) hx hb d_M_wait_42 (by decide) ?_
  refine k_iast (k := de) hx hb hK hP hD hS 4 3 rfl rfl rfl (by omega) (by decide) d_M_wait_43 (fun H locs hP hD hS => ?_)
  have hP : va_P (dC, dI) vC [(ad 20, eM ad thr inn oun (nI mn) kno cho kep (nI de) cam csz clo chi), (ad 27, eI 81 (ca 27) cov), (ad 35, eI 40 (ca 35) (upd wl de lf)), (ad 36, eI 40 (ca 36) (upd wp de (mo_po lf cov mn))), (ad 37, eI 40 (ca 37) (upd wn de 0)), (ad 38, eI 40 (ca 38) (upd wr de rr)), (ad 39, eI 40 (ca 39) bz)] H := hP
  have hD : va_D A [(ad 20, eM ad thr inn oun (nI mn) kno cho kep (nI de) cam csz clo chi), (ad 27, eI 81 (ca 27) cov), (ad 35, eI 40 (ca 35) (upd wl de lf)), (ad 36, eI 40 (ca 36) (upd wp de (mo_po lf cov mn))), (ad 37, eI 40 (ca 37) (upd wn de 0)), (ad 38, eI 40 (ca 38) (upd wr de rr)), (ad 39, eI 40 (ca 39) bz)] := hD
  refine lv_aload_n hx hb d_M_wait_44 rfl (lv_at hl 0 rfl) ?_
  refine va_get (D := (dC, dI)) (ci := 4) (v := .ref (ad 39)) (C := R_M) (T := F_M) (N := 33) hx hb hts (hin_of in_M) hown hK hP 0 rfl rfl 25 (by decide) (hw_of hts mw_494) (fun _ h9 => h9) rfl d_M_wait_45 ?_
  refine lv_aload_n hx hb d_M_wait_48 rfl (lv_at hl 0 rfl) ?_
  refine va_get (D := (dC, dI)) (ci := 4) (v := .int (nI de)) (C := R_M) (T := F_M) (N := 33) hx hb hts (hin_of in_M) hown hK hP 0 rfl rfl 28 (by decide) (hw_of hts mw_497) (fun _ h9 => h9) rfl d_M_wait_49 ?_
  refine lv_iconst (v := (-1)) hx hb d_M_wait_52 (by decide) ?_
  refine k_iast (k := de) hx hb hK hP hD hS 6 5 rfl rfl rfl (by omega) (by decide) d_M_wait_53 (fun H locs hP hD hS => ?_)
  have hP : va_P (dC, dI) vC [(ad 20, eM ad thr inn oun (nI mn) kno cho kep (nI de) cam csz clo chi), (ad 27, eI 81 (ca 27) cov), (ad 35, eI 40 (ca 35) (upd wl de lf)), (ad 36, eI 40 (ca 36) (upd wp de (mo_po lf cov mn))), (ad 37, eI 40 (ca 37) (upd wn de 0)), (ad 38, eI 40 (ca 38) (upd wr de rr)), (ad 39, eI 40 (ca 39) (upd bz de (-1)))] H := hP
  have hD : va_D A [(ad 20, eM ad thr inn oun (nI mn) kno cho kep (nI de) cam csz clo chi), (ad 27, eI 81 (ca 27) cov), (ad 35, eI 40 (ca 35) (upd wl de lf)), (ad 36, eI 40 (ca 36) (upd wp de (mo_po lf cov mn))), (ad 37, eI 40 (ca 37) (upd wn de 0)), (ad 38, eI 40 (ca 38) (upd wr de rr)), (ad 39, eI 40 (ca 39) (upd bz de (-1)))] := hD
  refine lv_aload_n hx hb d_M_wait_54 rfl (lv_at hl 0 rfl) ?_
  refine lv_dup hx hb d_M_wait_55 rfl ?_
  refine va_get (D := (dC, dI)) (ci := 4) (v := .int (nI de)) (C := R_M) (T := F_M) (N := 33) hx hb hts (hin_of in_M) hown hK hP 0 rfl rfl 28 (by decide) (hw_of hts mw_497) (fun _ h9 => h9) rfl d_M_wait_56 ?_
  refine lv_iconst (v := 1) hx hb d_M_wait_59 (by decide) ?_
  refine k_iadd (a := de) (b := 1) hx hb rfl rfl d_M_wait_60 ?_
  refine va_put (D := (dC, dI)) (ci := 4) (v := .int (nI (de + 1))) (ty := .int) (C := R_M) (T := F_M) (N := 33) hx hb hts (hin_of in_M) ft_M tk_M nm_M hown hK hP hD hS 0 rfl rfl 28 (by decide) (hw_of hts mw_497) (fun _ h9 => h9) rfl (by decide +kernel) rfl rfl (Nat.le_of_ble_eq_true rfl) d_M_wait_61 (fun H locs hP hD hS => ?_)
  have hP : va_P (dC, dI) vC [(ad 20, eM ad thr inn oun (nI mn) kno cho kep (nI (de + 1)) cam csz clo chi), (ad 27, eI 81 (ca 27) cov), (ad 35, eI 40 (ca 35) (upd wl de lf)), (ad 36, eI 40 (ca 36) (upd wp de (mo_po lf cov mn))), (ad 37, eI 40 (ca 37) (upd wn de 0)), (ad 38, eI 40 (ca 38) (upd wr de rr)), (ad 39, eI 40 (ca 39) (upd bz de (-1)))] H := hP
  have hD : va_D A [(ad 20, eM ad thr inn oun (nI mn) kno cho kep (nI (de + 1)) cam csz clo chi), (ad 27, eI 81 (ca 27) cov), (ad 35, eI 40 (ca 35) (upd wl de lf)), (ad 36, eI 40 (ca 36) (upd wp de (mo_po lf cov mn))), (ad 37, eI 40 (ca 37) (upd wn de 0)), (ad 38, eI 40 (ca 38) (upd wr de rr)), (ad 39, eI 40 (ca 39) (upd bz de (-1)))] := hD
  exact W.vret hx hb hr (fun t ht hW => by exact kw_endv hP hD hK hS [0, 1, 2, 3, 4, 5, 6] rfl (by decide) rfl ht hW.alike) hS.2.2 d_M_wait_64
