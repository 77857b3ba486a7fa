set_option maxHeartbeats 4000000 in
set_option maxRecDepth 100000 in
theorem c_m_keep (l : Launch) (dC : Nat → ClassId) (dI : Nat → Nat → Nat) (ad : Nat → Nat) (ca : Nat → ClassId) (thr : Int32) (inn : Int32) (oun : Int32) (man : Int32) (kno : Int32) (cho : Int32) (dep : Int32) (cam : Int32) (csz : Int32) (clo : Int64) (chi : Int64) (mt : MT) (lf : Int32) (rr : Int32) (z0 : Int32) (lo : Int64) (hi : Int64) (hs : ∃ j, j < 65536 ∧ mo_sp mt.1 mt.2.1 mt.2.2.1 lf rr j = true) (hke : mt.2.2.2.2.2.2 ≤ 32768) (sz : Nat) : Met l y_M_keep w_M_keep ({ frames := 1, cells := 0, slots := 0, locals := 23 }) (kw_P [.ref (ad 20), .int lf, .int rr, .int z0, .long lo, .long hi] sz (dC, dI) vC [(ad 20, eM ad thr inn oun man kno cho (nI mt.2.2.2.2.2.2) dep cam csz clo chi), (ad 29, eZ 65536 (ca 29) mt.1), (ad 30, eI 65536 (ca 30) mt.2.1), (ad 31, eI 65536 (ca 31) mt.2.2.1), (ad 32, eI 65536 (ca 32) mt.2.2.2.1), (ad 33, eL 65536 (ca 33) mt.2.2.2.2.1), (ad 34, eL 65536 (ca 34) mt.2.2.2.2.2.1)] [(ca 29, .boolean), (ca 30, .int), (ca 31, .int), (ca 32, .int), (ca 33, .long), (ca 34, .long)]) (kw_Qv (dC, dI) vC [(ca 29, .boolean), (ca 30, .int), (ca 31, .int), (ca 32, .int), (ca 33, .long), (ca 34, .long)] (va_A [(ad 20, eM ad thr inn oun man kno cho (nI mt.2.2.2.2.2.2) dep cam csz clo chi), (ad 29, eZ 65536 (ca 29) mt.1), (ad 30, eI 65536 (ca 30) mt.2.1), (ad 31, eI 65536 (ca 31) mt.2.2.1), (ad 32, eI 65536 (ca 32) mt.2.2.2.1), (ad 33, eL 65536 (ca 33) mt.2.2.2.2.1), (ad 34, eL 65536 (ca 34) mt.2.2.2.2.2.1)] sz) [(ad 20, eM ad thr inn oun man kno cho (nI ((mo_keep lf rr z0 lo hi mt).2.2.2.2.2.2)) dep cam csz clo chi), (ad 29, eZ 65536 (ca 29) ((mo_keep lf rr z0 lo hi mt).1)), (ad 30, eI 65536 (ca 30) ((mo_keep lf rr z0 lo hi mt).2.1)), (ad 31, eI 65536 (ca 31) ((mo_keep lf rr z0 lo hi mt).2.2.1)), (ad 32, eI 65536 (ca 32) ((mo_keep lf rr z0 lo hi mt).2.2.2.1)), (ad 33, eL 65536 (ca 33) ((mo_keep lf rr z0 lo hi mt).2.2.2.2.1)), (ad 34, eL 65536 (ca 34) ((mo_keep lf rr z0 lo hi mt).2.2.2.2.2.1))]) 0 0 (va_A [(ad 20, eM ad thr inn oun man kno cho (nI mt.2.2.2.2.2.2) dep cam csz clo chi), (ad 29, eZ 65536 (ca 29) mt.1), (ad 30, eI 65536 (ca 30) mt.2.1), (ad 31, eI 65536 (ca 31) mt.2.2.1), (ad 32, eI 65536 (ca 32) mt.2.2.2.1), (ad 33, eL 65536 (ca 33) mt.2.2.2.2.1), (ad 34, eL 65536 (ca 34) mt.2.2.2.2.2.1)] sz) := by
  refine Met.ofW (cc := b_M_keep) (maxL := 9) (ret := none) (by decide) rfl ?_
  intro p e s m args below meth c s₁ B hml hv
  obtain ⟨rfl, hsz, hP, hK, hD0⟩ := hv
  have hx := B.exec
  have hb := B.bytes
  have hr := B.returns
  have hts := atoms_spec (ws := w_M_keep) B.pre
  have hlocks := B.notSynchronized
  have hown : s.vm.findClass R_M = some m.cls := findClass_of_methodNamed B.named
  subst hsz
  have hD := hD0.self (sz := s.heap.size)
  generalize hAe : va_A [(ad 20, eM ad thr inn oun man kno cho (nI mt.2.2.2.2.2.2) dep cam csz clo chi), (ad 29, eZ 65536 (ca 29) mt.1), (ad 30, eI 65536 (ca 30) mt.2.1), (ad 31, eI 65536 (ca 31) mt.2.2.1), (ad 32, eI 65536 (ca 32) mt.2.2.2.1), (ad 33, eL 65536 (ca 33) mt.2.2.2.2.1), (ad 34, eL 65536 (ca 34) mt.2.2.2.2.2.1)] s.heap.size = A at hD ⊢
  have hA : ∀ q : Nat, s.heap.size ≤ q → A q := fun q h => by rw [← hAe]; exact Or.inr h
  have hS : va_S A s.heap s.heap [] := va_S.rf
  have hP : va_P (dC, dI) vC [(ad 20, eM ad thr inn oun man kno cho (nI mt.2.2.2.2.2.2) dep cam csz clo chi), (ad 29, eZ 65536 (ca 29) mt.1), (ad 30, eI 65536 (ca 30) mt.2.1), (ad 31, eI 65536 (ca 31) mt.2.2.1), (ad 32, eI 65536 (ca 32) mt.2.2.2.1), (ad 33, eL 65536 (ca 33) mt.2.2.2.2.1), (ad 34, eL 65536 (ca 34) mt.2.2.2.2.2.1)] s.heap := hP
  have hl := lv_entry ([.ref (ad 20), .int lf, .int rr, .int z0, .long lo, .long hi]) (n := 9) (Nat.le_of_ble_eq_true rfl)
  rw [lg_entry_eq]
  generalize (lg_sl ([.ref (ad 20), .int lf, .int rr, .int z0, .long lo, .long hi]) ++ List.replicate (9 - (lg_sl ([.ref (ad 20), .int lf, .int rr, .int z0, .long lo, .long hi])).length) Slot.unset).toArray = ls at hl ⊢
  have hl : lv_has ls 9 [(0, .ref (ad 20)), (1, .int lf), (2, .int rr), (3, .int z0), (4, .long lo), (6, .long hi)] := hl
  refine lv_aload_n hx hb d_M_keep_0 rfl (lv_at hl 0 rfl) ?_
  refine va_get (D := (dC, dI)) (ci := 4) (v := .int (nI mt.2.2.2.2.2.2)) (C := R_M) (T := F_M) (N := 33) hx hb hts (hin_of in_M) hown hK hP 0 rfl rfl 20 (by decide) (hw_of hts mw_489) (fun _ h9 => h9) rfl d_M_keep_1 ?_
  refine lv_ldc hx hb hown (hw_of hts mw_658) d_M_keep_4 ?_
  refine k_ge (a := mt.2.2.2.2.2.2) (b := 32768) (tgt := 77) hx hb rfl rfl (by omega) (by omega) d_M_keep_6 (by decide) (fun c_6 => ?_) (fun c_6 => ?_)
  · have e_1 : nI ((mo_keep lf rr z0 lo hi mt).2.2.2.2.2.2) = nI mt.2.2.2.2.2.2 := by first | rw [mo_keep_t c_6] | rw [mo_keep_f c_6]
    have e_2 : (mo_keep lf rr z0 lo hi mt).1 = mt.1 := by first | rw [mo_keep_t c_6] | rw [mo_keep_f c_6]
    have e_3 : (mo_keep lf rr z0 lo hi mt).2.1 = mt.2.1 := by first | rw [mo_keep_t c_6] | rw [mo_keep_f c_6]
    have e_4 : (mo_keep lf rr z0 lo hi mt).2.2.1 = mt.2.2.1 := by first | rw [mo_keep_t c_6] | rw [mo_keep_f c_6]
    have e_5 : (mo_keep lf rr z0 lo hi mt).2.2.2.1 = mt.2.2.2.1 := by first | rw [mo_keep_t c_6] | rw [mo_keep_f c_6]
    have e_6 : (mo_keep lf rr z0 lo hi mt).2.2.2.2.1 = mt.2.2.2.2.1 := by first | rw [mo_keep_t c_6] | rw [mo_keep_f c_6]
    have e_7 : (mo_keep lf rr z0 lo hi mt).2.2.2.2.2.1 = mt.2.2.2.2.2.1 := by first | rw [mo_keep_t c_6] | rw [mo_keep_f c_6]
    exact W.vret hx hb hr (fun t ht hW => by (try rw [e_1]); (try rw [e_2]); (try rw [e_3]); (try rw [e_4]); (try rw [e_5]); (try rw [e_6]); (try rw [e_7]); exact kw_endv hP hD hK hS [0, 1, 2, 3, 4, 5, 6] rfl (by decide) rfl ht hW.alike) hS.2.2 d_M_keep_77
  · refine lv_aload_n hx hb d_M_keep_9 rfl (lv_at hl 0 rfl) ?_
    refine lv_iload_n hx hb d_M_keep_10 rfl (lv_at hl 1 rfl) ?_
    refine lv_iload_n hx hb d_M_keep_11 rfl (lv_at hl 2 rfl) ?_
    have hPc := hP.sub (ws' := [(ad 20, eM ad thr inn oun man kno cho (nI mt.2.2.2.2.2.2) dep cam csz clo chi), (ad 29, eZ 65536 (ca 29) mt.1), (ad 30, eI 65536 (ca 30) mt.2.1), (ad 31, eI 65536 (ca 31) mt.2.2.1)]) [0, 1, 2, 3] rfl
    have hKc := hK.sub (tys' := [(ca 29, .boolean), (ca 30, .int), (ca 31, .int)]) [0, 1, 2] rfl
    refine vp_callSi (W.runV (As := [.int lf, .int rr]) (rest := []) ⟨hx, hb, hml, hown, hts⟩ (c_m_placeOf l dC dI ad ca thr inn oun man kno cho (nI mt.2.2.2.2.2.2) dep cam csz clo chi mt.1 mt.2.1 mt.2.2.1 lf rr hs) (cwV 2 hts (gd_V mw_659 mw_661 mw_36 mw_44 mw_662) rfl rfl rfl (by decide +kernel) ⟨Nat.le_of_ble_eq_true rfl, Nat.le_of_ble_eq_true rfl⟩) (kr_V (q0 := 0) (ci := 4) hKc hPc rfl rfl) rfl rfl hl.1 rfl (lv_room (Nat.le_of_ble_eq_true rfl)) d_M_keep_12 ⟨Nat.zero_le _, Nat.zero_le _⟩) (fun r hq => ?_)
    subst hq
    refine lv_istore (lv' := [(8, .int (nI (mo_at mt.1 mt.2.1 mt.2.2.1 lf rr))), (0, .ref (ad 20)), (1, .int lf), (2, .int rr), (3, .int z0), (4, .long lo), (6, .long hi)]) hx hb d_M_keep_15 hl (by decide) rfl (fun ls hl => ?_)
    have hat := mo_at_lt mt.1 mt.2.1 mt.2.2.1 lf rr
    refine lv_aload_n hx hb d_M_keep_17 rfl (lv_at hl 1 rfl) ?_
    refine va_get (D := (dC, dI)) (ci := 4) (v := .ref (ad 29)) (C := R_M) (T := F_M) (N := 33) hx hb hts (hin_of in_M) hown hK hP 0 rfl rfl 14 (by decide) (hw_of hts mw_483) (fun _ h9 => h9) rfl d_M_keep_18 ?_
    refine lv_iload hx hb d_M_keep_21 (lv_at hl 0 rfl) ?_
    refine lv_iconst (v := 1) hx hb d_M_keep_23 (by decide) ?_
    refine k_zast (k := mo_at mt.1 mt.2.1 mt.2.2.1 lf rr) hx hb hK hP hD hS 1 0 rfl rfl rfl (by decide) (by omega) (by decide) d_M_keep_24 (fun H locs hP hD hS => ?_)
    have hP : va_P (dC, dI) vC [(ad 20, eM ad thr inn oun man kno cho (nI mt.2.2.2.2.2.2) dep cam csz clo chi), (ad 29, eZ 65536 (ca 29) (upd mt.1 (mo_at mt.1 mt.2.1 mt.2.2.1 lf rr) 1)), (ad 30, eI 65536 (ca 30) mt.2.1), (ad 31, eI 65536 (ca 31) mt.2.2.1), (ad 32, eI 65536 (ca 32) mt.2.2.2.1), (ad 33, eL 65536 (ca 33) mt.2.2.2.2.1), (ad 34, eL 65536 (ca 34) mt.2.2.2.2.2.1)] H := hP
    have hD : va_D A [(ad 20, eM ad thr inn oun man kno cho (nI mt.2.2.2.2.2.2) dep cam csz clo chi), (ad 29, eZ 65536 (ca 29) (upd mt.1 (mo_at mt.1 mt.2.1 mt.2.2.1 lf rr) 1)), (ad 30, eI 65536 (ca 30) mt.2.1), (ad 31, eI 65536 (ca 31) mt.2.2.1), (ad 32, eI 65536 (ca 32) mt.2.2.2.1), (ad 33, eL 65536 (ca 33) mt.2.2.2.2.1), (ad 34, eL 65536 (ca 34) mt.2.2.2.2.2.1)] := hD
    refine lv_aload_n hx hb d_M_keep_25 rfl (lv_at hl 1 rfl) ?_
    refine va_get (D := (dC, dI)) (ci := 4) (v := .ref (ad 30)) (C := R_M) (T := F_M) (N := 33) hx hb hts (hin_of in_M) hown hK hP 0 rfl rfl 15 (by decide) (hw_of hts mw_484) (fun _ h9 => h9) rfl d_M_keep_26 ?_
    refine lv_iload hx hb d_M_keep_29 (lv_at hl 0 rfl) ?_
    refine lv_iload_n hx hb d_M_keep_31 rfl (lv_at hl 2 rfl) ?_
    refine k_iast (k := mo_at mt.1 mt.2.1 mt.2.2.1 lf rr) hx hb hK hP hD hS 2 1 rfl rfl rfl (by omega) (by decide) d_M_keep_32 (fun H locs hP hD hS => ?_)
    have hP : va_P (dC, dI) vC [(ad 20, eM ad thr inn oun man kno cho (nI mt.2.2.2.2.2.2) dep cam csz clo chi), (ad 29, eZ 65536 (ca 29) (upd mt.1 (mo_at mt.1 mt.2.1 mt.2.2.1 lf rr) 1)), (ad 30, eI 65536 (ca 30) (upd mt.2.1 (mo_at mt.1 mt.2.1 mt.2.2.1 lf rr) lf)), (ad 31, eI 65536 (ca 31) mt.2.2.1), (ad 32, eI 65536 (ca 32) mt.2.2.2.1), (ad 33, eL 65536 (ca 33) mt.2.2.2.2.1), (ad 34, eL 65536 (ca 34) mt.2.2.2.2.2.1)] H := hP
    have hD : va_D A [(ad 20, eM ad thr inn oun man kno cho (nI mt.2.2.2.2.2.2) dep cam csz clo chi), (ad 29, eZ 65536 (ca 29) (upd mt.1 (mo_at mt.1 mt.2.1 mt.2.2.1 lf rr) 1)), (ad 30, eI 65536 (ca 30) (upd mt.2.1 (mo_at mt.1 mt.2.1 mt.2.2.1 lf rr) lf)), (ad 31, eI 65536 (ca 31) mt.2.2.1), (ad 32, eI 65536 (ca 32) mt.2.2.2.1), (ad 33, eL 65536 (ca 33) mt.2.2.2.2.1), (ad 34, eL 65536 (ca 34) mt.2.2.2.2.2.1)] := hD
    refine lv_aload_n hx hb d_M_keep_33 rfl (lv_at hl 1 rfl) ?_
    refine va_get (D := (dC, dI)) (ci := 4) (v := .ref (ad 31)) (C := R_M) (T := F_M) (N := 33) hx hb hts (hin_of in_M) hown hK hP 0 rfl rfl 16 (by decide) (hw_of hts mw_485) (fun _ h9 => h9) rfl d_M_keep_34 ?_
    refine lv_iload hx hb d_M_keep_37 (lv_at hl 0 rfl) ?_
    refine lv_iload_n hx hb d_M_keep_39 rfl (lv_at hl 3 rfl) ?_
    refine k_iast (k := mo_at mt.1 mt.2.1 mt.2.2.1 lf rr) hx hb hK hP hD hS 3 2 rfl rfl rfl (by omega) (by decide) d_M_keep_40 (fun H locs hP hD hS => ?_)
    have hP : va_P (dC, dI) vC [(ad 20, eM ad thr inn oun man kno cho (nI mt.2.2.2.2.2.2) dep cam csz clo chi), (ad 29, eZ 65536 (ca 29) (upd mt.1 (mo_at mt.1 mt.2.1 mt.2.2.1 lf rr) 1)), (ad 30, eI 65536 (ca 30) (upd mt.2.1 (mo_at mt.1 mt.2.1 mt.2.2.1 lf rr) lf)), (ad 31, eI 65536 (ca 31) (upd mt.2.2.1 (mo_at mt.1 mt.2.1 mt.2.2.1 lf rr) rr)), (ad 32, eI 65536 (ca 32) mt.2.2.2.1), (ad 33, eL 65536 (ca 33) mt.2.2.2.2.1), (ad 34, eL 65536 (ca 34) mt.2.2.2.2.2.1)] H := hP
    have hD : va_D A [(ad 20, eM ad thr inn oun man kno cho (nI mt.2.2.2.2.2.2) dep cam csz clo chi), (ad 29, eZ 65536 (ca 29) (upd mt.1 (mo_at mt.1 mt.2.1 mt.2.2.1 lf rr) 1)), (ad 30, eI 65536 (ca 30) (upd mt.2.1 (mo_at mt.1 mt.2.1 mt.2.2.1 lf rr) lf)), (ad 31, eI 65536 (ca 31) (upd mt.2.2.1 (mo_at mt.1 mt.2.1 mt.2.2.1 lf rr) rr)), (ad 32, eI 65536 (ca 32) mt.2.2.2.1), (ad 33, eL 65536 (ca 33) mt.2.2.2.2.1), (ad 34, eL 65536 (ca 34) mt.2.2.2.2.2.1)] := hD
    refine lv_aload_n hx hb d_M_keep_41 rfl (lv_at hl 1 rfl) ?_
    refine va_get (D := (dC, dI)) (ci := 4) (v := .ref (ad 32)) (C := R_M) (T := F_M) (N := 33) hx hb hts (hin_of in_M) hown hK hP 0 rfl rfl 17 (by decide) (hw_of hts mw_486) (fun _ h9 => h9) rfl d_M_keep_42 ?_
    refine lv_iload hx hb d_M_keep_45 (lv_at hl 0 rfl) ?_
    refine lv_iload_n hx hb d_M_keep_47 rfl (lv_at hl 4 rfl) ?_
    refine k_iast (k := mo_at mt.1 mt.2.1 mt.2.2.1 lf rr) hx hb hK hP hD hS 4 3 rfl rfl rfl (by omega) (by decide) d_M_keep_48 (fun H locs hP hD hS => ?_)
    have hP : va_P (dC, dI) vC [(ad 20, eM ad thr inn oun man kno cho (nI mt.2.2.2.2.2.2) dep cam csz clo chi), (ad 29, eZ 65536 (ca 29) (upd mt.1 (mo_at mt.1 mt.2.1 mt.2.2.1 lf rr) 1)), (ad 30, eI 65536 (ca 30) (upd mt.2.1 (mo_at mt.1 mt.2.1 mt.2.2.1 lf rr) lf)), (ad 31, eI 65536 (ca 31) (upd mt.2.2.1 (mo_at mt.1 mt.2.1 mt.2.2.1 lf rr) rr)), (ad 32, eI 65536 (ca 32) (upd mt.2.2.2.1 (mo_at mt.1 mt.2.1 mt.2.2.1 lf rr) z0)), (ad 33, eL 65536 (ca 33) mt.2.2.2.2.1), (ad 34, eL 65536 (ca 34) mt.2.2.2.2.2.1)] H := hP
    have hD : va_D A [(ad 20, eM ad thr inn oun man kno cho (nI mt.2.2.2.2.2.2) dep cam csz clo chi), (ad 29, eZ 65536 (ca 29) (upd mt.1 (mo_at mt.1 mt.2.1 mt.2.2.1 lf rr) 1)), (ad 30, eI 65536 (ca 30) (upd mt.2.1 (mo_at mt.1 mt.2.1 mt.2.2.1 lf rr) lf)), (ad 31, eI 65536 (ca 31) (upd mt.2.2.1 (mo_at mt.1 mt.2.1 mt.2.2.1 lf rr) rr)), (ad 32, eI 65536 (ca 32) (upd mt.2.2.2.1 (mo_at mt.1 mt.2.1 mt.2.2.1 lf rr) z0)), (ad 33, eL 65536 (ca 33) mt.2.2.2.2.1), (ad 34, eL 65536 (ca 34) mt.2.2.2.2.2.1)] := hD
    refine lv_aload_n hx hb d_M_keep_49 rfl (lv_at hl 1 rfl) ?_
    refine va_get (D := (dC, dI)) (ci := 4) (v := .ref (ad 33)) (C := R_M) (T := F_M) (N := 33) hx hb hts (hin_of in_M) hown hK hP 0 rfl rfl 18 (by decide) (hw_of hts mw_487) (fun _ h9 => h9) rfl d_M_keep_50 ?_
    refine lv_iload hx hb d_M_keep_53 (lv_at hl 0 rfl) ?_
    refine lv_lload hx hb d_M_keep_55 (lv_at hl 5 rfl) ?_
    refine k_last (k := mo_at mt.1 mt.2.1 mt.2.2.1 lf rr) hx hb hK hP hD hS 5 4 rfl rfl rfl (by omega) (by decide) d_M_keep_57 (fun H locs hP hD hS => ?_)
    have hP : va_P (dC, dI) vC [(ad 20, eM ad thr inn oun man kno cho (nI mt.2.2.2.2.2.2) dep cam csz clo chi), (ad 29, eZ 65536 (ca 29) (upd mt.1 (mo_at mt.1 mt.2.1 mt.2.2.1 lf rr) 1)), (ad 30, eI 65536 (ca 30) (upd mt.2.1 (mo_at mt.1 mt.2.1 mt.2.2.1 lf rr) lf)), (ad 31, eI 65536 (ca 31) (upd mt.2.2.1 (mo_at mt.1 mt.2.1 mt.2.2.1 lf rr) rr)), (ad 32, eI 65536 (ca 32) (upd mt.2.2.2.1 (mo_at mt.1 mt.2.1 mt.2.2.1 lf rr) z0)), (ad 33, eL 65536 (ca 33) (vp_updL mt.2.2.2.2.1 (mo_at mt.1 mt.2.1 mt.2.2.1 lf rr) lo)), (ad 34, eL 65536 (ca 34) mt.2.2.2.2.2.1)] H := hP
    have hD : va_D A [(ad 20, eM ad thr inn oun man kno cho (nI mt.2.2.2.2.2.2) dep cam csz clo chi), (ad 29, eZ 65536 (ca 29) (upd mt.1 (mo_at mt.1 mt.2.1 mt.2.2.1 lf rr) 1)), (ad 30, eI 65536 (ca 30) (upd mt.2.1 (mo_at mt.1 mt.2.1 mt.2.2.1 lf rr) lf)), (ad 31, eI 65536 (ca 31) (upd mt.2.2.1 (mo_at mt.1 mt.2.1 mt.2.2.1 lf rr) rr)), (ad 32, eI 65536 (ca 32) (upd mt.2.2.2.1 (mo_at mt.1 mt.2.1 mt.2.2.1 lf rr) z0)), (ad 33, eL 65536 (ca 33) (vp_updL mt.2.2.2.2.1 (mo_at mt.1 mt.2.1 mt.2.2.1 lf rr) lo)), (ad 34, eL 65536 (ca 34) mt.2.2.2.2.2.1)] := hD
    refine lv_aload_n hx hb d_M_keep_58 rfl (lv_at hl 1 rfl) ?_
    refine va_get (D := (dC, dI)) (ci := 4) (v := .ref (ad 34)) (C := R_M) (T := F_M) (N := 33) hx hb hts (hin_of in_M) hown hK hP 0 rfl rfl 19 (by decide) (hw_of hts mw_488) (fun _ h9 => h9) rfl d_M_keep_59 ?_
    refine lv_iload hx hb d_M_keep_62 (lv_at hl 0 rfl) ?_
    refine lv_lload hx hb d_M_keep_64 (lv_at hl 6 rfl) ?_
    refine k_last (k := mo_at mt.1 mt.2.1 mt.2.2.1 lf rr) hx hb hK hP hD hS 6 5 rfl rfl rfl (by omega) (by decide) d_M_keep_66 (fun H locs hP hD hS => ?_)
    have hP : va_P (dC, dI) vC [(ad 20, eM ad thr inn oun man kno cho (nI mt.2.2.2.2.2.2) dep cam csz clo chi), (ad 29, eZ 65536 (ca 29) (upd mt.1 (mo_at mt.1 mt.2.1 mt.2.2.1 lf rr) 1)), (ad 30, eI 65536 (ca 30) (upd mt.2.1 (mo_at mt.1 mt.2.1 mt.2.2.1 lf rr) lf)), (ad 31, eI 65536 (ca 31) (upd mt.2.2.1 (mo_at mt.1 mt.2.1 mt.2.2.1 lf rr) rr)), (ad 32, eI 65536 (ca 32) (upd mt.2.2.2.1 (mo_at mt.1 mt.2.1 mt.2.2.1 lf rr) z0)), (ad 33, eL 65536 (ca 33) (vp_updL mt.2.2.2.2.1 (mo_at mt.1 mt.2.1 mt.2.2.1 lf rr) lo)), (ad 34, eL 65536 (ca 34) (vp_updL mt.2.2.2.2.2.1 (mo_at mt.1 mt.2.1 mt.2.2.1 lf rr) hi))] H := hP
    have hD : va_D A [(ad 20, eM ad thr inn oun man kno cho (nI mt.2.2.2.2.2.2) dep cam csz clo chi), (ad 29, eZ 65536 (ca 29) (upd mt.1 (mo_at mt.1 mt.2.1 mt.2.2.1 lf rr) 1)), (ad 30, eI 65536 (ca 30) (upd mt.2.1 (mo_at mt.1 mt.2.1 mt.2.2.1 lf rr) lf)), (ad 31, eI 65536 (ca 31) (upd mt.2.2.1 (mo_at mt.1 mt.2.1 mt.2.2.1 lf rr) rr)), (ad 32, eI 65536 (ca 32) (upd mt.2.2.2.1 (mo_at mt.1 mt.2.1 mt.2.2.1 lf rr) z0)), (ad 33, eL 65536 (ca 33) (vp_updL mt.2.2.2.2.1 (mo_at mt.1 mt.2.1 mt.2.2.1 lf rr) lo)), (ad 34, eL 65536 (ca 34) (vp_updL mt.2.2.2.2.2.1 (mo_at mt.1 mt.2.1 mt.2.2.1 lf rr) hi))] := hD
    refine lv_aload_n hx hb d_M_keep_67 rfl (lv_at hl 1 rfl) ?_
    refine lv_dup hx hb d_M_keep_68 rfl ?_
    refine va_get (D := (dC, dI)) (ci := 4) (v := .int (nI mt.2.2.2.2.2.2)) (C := R_M) (T := F_M) (N := 33) hx hb hts (hin_of in_M) hown hK hP 0 rfl rfl 20 (by decide) (hw_of hts mw_489) (fun _ h9 => h9) rfl d_M_keep_69 ?_
    refine lv_iconst (v := 1) hx hb d_M_keep_72 (by decide) ?_
    refine k_iadd (a := mt.2.2.2.2.2.2) (b := 1) hx hb rfl rfl d_M_keep_73 ?_
    refine va_put (D := (dC, dI)) (ci := 4) (v := .int (nI (mt.2.2.2.2.2.2 + 1))) (ty := .int) (C := R_M) (T := F_M) (N := 33) hx hb hts (hin_of in_M) ft_M tk_M nm_M hown hK hP hD hS 0 rfl rfl 20 (by decide) (hw_of hts mw_489) (fun _ h9 => h9) rfl (by decide +kernel) rfl rfl (Nat.le_of_ble_eq_true rfl) d_M_keep_74 (fun H locs hP hD hS => ?_)
    have hP : va_P (dC, dI) vC [(ad 20, eM ad thr inn oun man kno cho (nI (mt.2.2.2.2.2.2 + 1)) dep cam csz clo chi), (ad 29, eZ 65536 (ca 29) (upd mt.1 (mo_at mt.1 mt.2.1 mt.2.2.1 lf rr) 1)), (ad 30, eI 65536 (ca 30) (upd mt.2.1 (mo_at mt.1 mt.2.1 mt.2.2.1 lf rr) lf)), (ad 31, eI 65536 (ca 31) (upd mt.2.2.1 (mo_at mt.1 mt.2.1 mt.2.2.1 lf rr) rr)), (ad 32, eI 65536 (ca 32) (upd mt.2.2.2.1 (mo_at mt.1 mt.2.1 mt.2.2.1 lf rr) z0)), (ad 33, eL 65536 (ca 33) (vp_updL mt.2.2.2.2.1 (mo_at mt.1 mt.2.1 mt.2.2.1 lf rr) lo)), (ad 34, eL 65536 (ca 34) (vp_updL mt.2.2.2.2.2.1 (mo_at mt.1 mt.2.1 mt.2.2.1 lf rr) hi))] H := hP
    have hD : va_D A [(ad 20, eM ad thr inn oun man kno cho (nI (mt.2.2.2.2.2.2 + 1)) dep cam csz clo chi), (ad 29, eZ 65536 (ca 29) (upd mt.1 (mo_at mt.1 mt.2.1 mt.2.2.1 lf rr) 1)), (ad 30, eI 65536 (ca 30) (upd mt.2.1 (mo_at mt.1 mt.2.1 mt.2.2.1 lf rr) lf)), (ad 31, eI 65536 (ca 31) (upd mt.2.2.1 (mo_at mt.1 mt.2.1 mt.2.2.1 lf rr) rr)), (ad 32, eI 65536 (ca 32) (upd mt.2.2.2.1 (mo_at mt.1 mt.2.1 mt.2.2.1 lf rr) z0)), (ad 33, eL 65536 (ca 33) (vp_updL mt.2.2.2.2.1 (mo_at mt.1 mt.2.1 mt.2.2.1 lf rr) lo)), (ad 34, eL 65536 (ca 34) (vp_updL mt.2.2.2.2.2.1 (mo_at mt.1 mt.2.1 mt.2.2.1 lf rr) hi))] := hD
    have e_8 : nI ((mo_keep lf rr z0 lo hi mt).2.2.2.2.2.2) = nI (mt.2.2.2.2.2.2 + 1) := by first | rw [mo_keep_t c_6] | rw [mo_keep_f c_6]
    have e_9 : (mo_keep lf rr z0 lo hi mt).1 = upd mt.1 (mo_at mt.1 mt.2.1 mt.2.2.1 lf rr) 1 := by first | rw [mo_keep_t c_6] | rw [mo_keep_f c_6]
    have e_10 : (mo_keep lf rr z0 lo hi mt).2.1 = upd mt.2.1 (mo_at mt.1 mt.2.1 mt.2.2.1 lf rr) lf := by first | rw [mo_keep_t c_6] | rw [mo_keep_f c_6]
    have e_11 : (mo_keep lf rr z0 lo hi mt).2.2.1 = upd mt.2.2.1 (mo_at mt.1 mt.2.1 mt.2.2.1 lf rr) rr := by first | rw [mo_keep_t c_6] | rw [mo_keep_f c_6]
    have e_12 : (mo_keep lf rr z0 lo hi mt).2.2.2.1 = upd mt.2.2.2.1 (mo_at mt.1 mt.2.1 mt.2.2.1 lf rr) z0 := by first | rw [mo_keep_t c_6] | rw [mo_keep_f c_6]
    have e_13 : (mo_keep lf rr z0 lo hi mt).2.2.2.2.1 = vp_updL mt.2.2.2.2.1 (mo_at mt.1 mt.2.1 mt.2.2.1 lf rr) lo := by first | rw [mo_keep_t c_6] | rw [mo_keep_f c_6]
    have e_14 : (mo_keep lf rr z0 lo hi mt).2.2.2.2.2.1 = vp_updL mt.2.2.2.2.2.1 (mo_at mt.1 mt.2.1 mt.2.2.1 lf rr) hi := by first | rw [mo_keep_t c_6] | rw [mo_keep_f c_6]
    exact W.vret hx hb hr (fun t ht hW => by (try rw [e_8]); (try rw [e_9]); (try rw [e_10]); (try rw [e_11]); (try rw [e_12]); (try rw [e_13]); (try rw [e_14]); exact kw_endv hP hD hK hS [0, 1, 2, 3, 4, 5, 6] rfl (by decide) rfl ht hW.alike) hS.2.2 d_M_keep_77
