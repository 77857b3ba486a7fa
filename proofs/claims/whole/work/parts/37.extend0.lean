set_option maxHeartbeats 4000000 in
set_option maxRecDepth 100000 in
theorem c_extend_0 (l : Launch) (dC : Nat → ClassId) (dI : Nat → Nat → Nat) (ad : Nat → Nat) (ca : Nat → ClassId) (pk : Int32) (pp : Int32) (bw : Int32) (bs : Int64) (cn : Nat) (hc : cn ≤ 63) (due : Int64) (lon : Int64) (wei : Nat → Int32) (ser : Nat → Int64) (pla : Nat → Int64) (dp : Nat) (op : Int64) (fr : Int64) (wt : Int32) (tk : Int64) (hdp : dp = 32) (sz : Nat) : Met l y_S_extend w_S_extend (rmE 0) (kw_P [.ref (ad 1), .int (nI dp), .long op, .long fr, .int wt, .long tk] sz (dC, dI) vC [(ad 1, eS ad pk pp bw bs), (ad 2, eT ad (nI cn) due lon), (ad 7, eI 81 (ca 7) wei), (ad 8, eL 32 (ca 8) ser), (ad 13, eL 81 (ca 13) pla)] [(ca 7, .int), (ca 8, .long), (ca 13, .long)]) (kw_Qv (dC, dI) vC [(ca 7, .int), (ca 8, .long), (ca 13, .long)] (va_A [(ad 1, eS ad pk pp bw bs), (ad 2, eT ad (nI cn) due lon), (ad 7, eI 81 (ca 7) wei), (ad 8, eL 32 (ca 8) ser), (ad 13, eL 81 (ca 13) pla)] sz) [(ad 1, eS ad pk pp ((m_ext m_pop cn pla wei ser 0 op fr wt tk (bw, bs)).1) ((m_ext m_pop cn pla wei ser 0 op fr wt tk (bw, bs)).2)), (ad 2, eT ad (nI cn) due lon), (ad 7, eI 81 (ca 7) wei), (ad 8, eL 32 (ca 8) ser), (ad 13, eL 81 (ca 13) pla)]) 0 0 (va_A [(ad 1, eS ad pk pp bw bs), (ad 2, eT ad (nI cn) due lon), (ad 7, eI 81 (ca 7) wei), (ad 8, eL 32 (ca 8) ser), (ad 13, eL 81 (ca 13) pla)] sz) := by
  refine Met.ofW (cc := b_S_extend) (maxL := 16) (ret := none) (by decide) rfl ?_
  intro p e s m args below meth c s₁ B hml hv
  obtain ⟨rfl, hsz, hP, hK, hD0⟩ := hv
  have hx := B.exec
  have hb := B.bytes
  have hr := B.returns
  have hts := atoms_spec (ws := w_S_extend) B.pre
  have hlocks := B.notSynchronized
  have hown : s.vm.findClass R_S = some m.cls := findClass_of_methodNamed B.named
  subst hsz
  have hD := hD0.self (sz := s.heap.size)
  generalize hAe : va_A [(ad 1, eS ad pk pp bw bs), (ad 2, eT ad (nI cn) due lon), (ad 7, eI 81 (ca 7) wei), (ad 8, eL 32 (ca 8) ser), (ad 13, eL 81 (ca 13) pla)] s.heap.size = A at hD ⊢
  have hA : ∀ q : Nat, s.heap.size ≤ q → A q := fun q h => by rw [← hAe]; exact Or.inr h
  have hS : va_S A s.heap s.heap [] := va_S.rf
  have hP : va_P (dC, dI) vC [(ad 1, eS ad pk pp bw bs), (ad 2, eT ad (nI cn) due lon), (ad 7, eI 81 (ca 7) wei), (ad 8, eL 32 (ca 8) ser), (ad 13, eL 81 (ca 13) pla)] s.heap := hP
  have hl := lv_entry ([.ref (ad 1), .int (nI dp), .long op, .long fr, .int wt, .long tk]) (n := 16) (Nat.le_of_ble_eq_true rfl)
  rw [lg_entry_eq]
  generalize (lg_sl ([.ref (ad 1), .int (nI dp), .long op, .long fr, .int wt, .long tk]) ++ List.replicate (16 - (lg_sl ([.ref (ad 1), .int (nI dp), .long op, .long fr, .int wt, .long tk])).length) Slot.unset).toArray = ls at hl ⊢
  have hl : lv_has ls 16 [(0, .ref (ad 1)), (1, .int (nI dp)), (2, .long op), (4, .long fr), (6, .int wt), (7, .long tk)] := hl
  refine lv_lload_n hx hb d_S_extend_0 rfl (lv_at hl 2 rfl) ?_
  refine lv_lconst (v := 0) hx hb d_S_extend_1 rfl ?_
  refine k_lne (tgt := 15) hx hb d_S_extend_2 d_S_extend_3 (by decide) (fun c_2 => ?_) (fun c_2 => ?_)
  · refine lv_iload_n hx hb d_S_extend_15 rfl (lv_at hl 1 rfl) ?_
    refine lv_bipush (v := 32) hx hb d_S_extend_16 (by decide) ?_
    refine k_lt (a := dp) (b := 32) (tgt := 22) hx hb rfl rfl (by omega) (by omega) d_S_extend_18 (by decide) (fun c_18 => ?_) (fun c_18 => ?_)
    · exfalso; omega
    · have e_1 : (m_ext m_pop cn pla wei ser 0 op fr wt tk (bw, bs)).1 = bw := by simp [m_ext, c_2, c_18]
      have e_2 : (m_ext m_pop cn pla wei ser 0 op fr wt tk (bw, bs)).2 = bs := by simp [m_ext, c_2, c_18]
      exact W.vret hx hb hr (fun t ht hW => by (try rw [e_1]); (try rw [e_2]); exact kw_endv hP hD hK hS [0, 1, 2, 3, 4] rfl (by decide) rfl ht hW.alike) hS.2.2 d_S_extend_21
  · refine lv_aload_n hx hb d_S_extend_6 rfl (lv_at hl 0 rfl) ?_
    refine lv_iload hx hb d_S_extend_7 (lv_at hl 4 rfl) ?_
    refine lv_lload hx hb d_S_extend_9 (lv_at hl 5 rfl) ?_
    have hPc := hP.sub (ws' := [(ad 1, eS ad pk pp bw bs)]) [0] rfl
    have hDc := hD.sub (ws' := [(ad 1, eS ad pk pp bw bs)]) [0] (by decide) rfl
    have hKc := hK.sub (tys' := []) [] rfl
    refine kw_callv (wr := [(ad 2, eT ad (nI cn) due lon), (ad 7, eI 81 (ca 7) wei), (ad 8, eL 32 (ca 8) ser), (ad 13, eL 81 (ca 13) pla)]) (wf := [(ad 1, eS ad pk pp ((m_keep wt tk (bw, bs)).1) ((m_keep wt tk (bw, bs)).2))]) (va_runV (As := [.int wt, .long tk]) (rest := []) ⟨hx, hb, hml, hown, hts⟩ (c_keepIfBetter l dC dI ad ca pk pp bw bs wt tk _) (cwV 2 hts (gd_V mw_264 mw_266 mw_11 mw_41 mw_267) rfl rfl rfl (by decide +kernel) ⟨Nat.le_of_ble_eq_true rfl, Nat.le_of_ble_eq_true rfl⟩) (kw_V (q0 := 0) (ci := 2) hKc hPc hDc rfl rfl) rfl rfl hl.1 rfl (lv_room (Nat.le_of_ble_eq_true rfl)) d_S_extend_11 ⟨Nat.zero_le _, Nat.zero_le _⟩) hP hD hS hA [0] [1, 2, 3, 4] rfl rfl (by decide) (by decide) (fun H locs hP hD hS => ?_)
    have hP : va_P (dC, dI) vC [(ad 2, eT ad (nI cn) due lon), (ad 7, eI 81 (ca 7) wei), (ad 8, eL 32 (ca 8) ser), (ad 13, eL 81 (ca 13) pla), (ad 1, eS ad pk pp ((m_keep wt tk (bw, bs)).1) ((m_keep wt tk (bw, bs)).2))] H := hP
    have hD : va_D A [(ad 2, eT ad (nI cn) due lon), (ad 7, eI 81 (ca 7) wei), (ad 8, eL 32 (ca 8) ser), (ad 13, eL 81 (ca 13) pla), (ad 1, eS ad pk pp ((m_keep wt tk (bw, bs)).1) ((m_keep wt tk (bw, bs)).2))] := hD
    have e_3 : (m_ext m_pop cn pla wei ser 0 op fr wt tk (bw, bs)).1 = (m_keep wt tk (bw, bs)).1 := by simp [m_ext, c_2]
    have e_4 : (m_ext m_pop cn pla wei ser 0 op fr wt tk (bw, bs)).2 = (m_keep wt tk (bw, bs)).2 := by simp [m_ext, c_2]
    exact W.vret hx hb hr (fun t ht hW => by (try rw [e_3]); (try rw [e_4]); exact kw_endv hP hD hK hS [4, 0, 1, 2, 3] rfl (by decide) rfl ht hW.alike) hS.2.2 d_S_extend_14
