set_option maxHeartbeats 4000000 in
set_option maxRecDepth 100000 in
theorem c_m_thrown (l : Launch) (dC : Nat → ClassId) (dI : Nat → Nat → Nat) (ad : Nat → Nat) (ca : Nat → ClassId) (thr : Int32) (inn : Int32) (oun : Int32) (man : Int32) (kno : Int32) (cho : Int32) (kep : Int32) (dep : Int32) (cam : Int32) (csz : Int32) (clo : Int64) (chi : Int64) : Met l y_M_thrown w_M_thrown ({ frames := 0, cells := 0, slots := 0, locals := 0 }) (kr_P [.ref (ad 20)] (dC, dI) vC [(ad 20, eM ad thr inn oun man kno cho kep dep cam csz clo chi)] []) (vp_Si (fun r => r = thr)) 0 0 (fun _ => False) := by
  refine Met.ofW (cc := b_M_thrown) (maxL := 1) (ret := (some .int)) (by decide) rfl ?_
  intro p e s m args below meth c s₁ B hml hv
  obtain ⟨rfl, hP, hK⟩ := hv
  have hx := B.exec
  have hb := B.bytes
  have hr := B.returns
  have hts := atoms_spec (ws := w_M_thrown) B.pre
  have hlocks := B.notSynchronized
  have hown : s.vm.findClass R_M = some m.cls := findClass_of_methodNamed B.named
  have hl := lv_entry ([.ref (ad 20)]) (n := 1) (Nat.le_of_ble_eq_true rfl)
  rw [lg_entry_eq]
  generalize (lg_sl ([.ref (ad 20)]) ++ List.replicate (1 - (lg_sl ([.ref (ad 20)])).length) Slot.unset).toArray = ls at hl ⊢
  have hl : lv_has ls 1 [(0, .ref (ad 20))] := hl
  refine lv_aload_n hx hb d_M_thrown_0 rfl (lv_at hl 0 rfl) ?_
  refine va_get (D := (dC, dI)) (ci := 4) (v := .int thr) (C := R_M) (T := F_M) (N := 33) hx hb hts (hin_of in_M) hown hK hP 0 rfl rfl 0 (by decide) (hw_of hts mw_469) (fun _ h9 => h9) rfl d_M_thrown_1 ?_
  exact W.iret (v := thr) hx hb hr (fun t ht hW => ⟨thr, rfl, rfl, ht⟩) (fun q h => by cases h) d_M_thrown_4
set_option maxHeartbeats 4000000 in
set_option maxRecDepth 100000 in
theorem c_m_refuse1 (l : Launch) (dC : Nat → ClassId) (dI : Nat → Nat → Nat) (ad : Nat → Nat) (ca : Nat → ClassId) (thr : Int32) (inn : Int32) (oun : Int32) (man : Int32) (kno : Int32) (cho : Int32) (kep : Int32) (dep : Int32) (cam : Int32) (csz : Int32) (clo : Int64) (chi : Int64) (f2 : Int32) (sz : Nat) : Met l y_M_refuse w_M_refuse ({ frames := 0, cells := 0, slots := 0, locals := 0 }) (kw_P [.ref (ad 20), .int 1, .int f2] sz (dC, dI) vC [(ad 20, eM ad thr inn oun man kno cho kep dep cam csz clo chi)] []) (kw_Qi (dC, dI) vC [] (va_A [(ad 20, eM ad thr inn oun man kno cho kep dep cam csz clo chi)] sz) [(ad 20, eM ad 1 inn oun man kno cho kep dep cam csz clo chi)] 1) 0 0 (va_A [(ad 20, eM ad thr inn oun man kno cho kep dep cam csz clo chi)] sz) := by
  refine Met.ofW (cc := b_M_refuse) (maxL := 3) (ret := (some .boolean)) (by decide) rfl ?_
  intro p e s m args below meth c s₁ B hml hv
  obtain ⟨rfl, hsz, hP, hK, hD0⟩ := hv
  have hx := B.exec
  have hb := B.bytes
  have hr := B.returns
  have hts := atoms_spec (ws := w_M_refuse) B.pre
  have hlocks := B.notSynchronized
  have hown : s.vm.findClass R_M = some m.cls := findClass_of_methodNamed B.named
  subst hsz
  have hD := hD0.self (sz := s.heap.size)
  generalize hAe : va_A [(ad 20, eM ad thr inn oun man kno cho kep dep cam csz clo chi)] s.heap.size = A at hD ⊢
  have hA : ∀ q : Nat, s.heap.size ≤ q → A q := fun q h => by rw [← hAe]; exact Or.inr h
  have hS : va_S A s.heap s.heap [] := va_S.rf
  have hP : va_P (dC, dI) vC [(ad 20, eM ad thr inn oun man kno cho kep dep cam csz clo chi)] s.heap := hP
  have hl := lv_entry ([.ref (ad 20), .int 1, .int f2]) (n := 3) (Nat.le_of_ble_eq_true rfl)
  rw [lg_entry_eq]
  generalize (lg_sl ([.ref (ad 20), .int 1, .int f2]) ++ List.replicate (3 - (lg_sl ([.ref (ad 20), .int 1, .int f2])).length) Slot.unset).toArray = ls at hl ⊢
  have hl : lv_has ls 3 [(0, .ref (ad 20)), (1, .int 1), (2, .int f2)] := hl
  refine lv_aload_n hx hb d_M_refuse_0 rfl (lv_at hl 0 rfl) ?_
  refine lv_iload_n hx hb d_M_refuse_1 rfl (lv_at hl 1 rfl) ?_
  refine lv_if_eq (tgt := 9) hx hb d_M_refuse_2 (by decide) (fun h => absurd h (by decide)) (fun _ => ?_)
  refine lv_iconst (v := 1) hx hb d_M_refuse_5 (by decide) ?_
  refine lv_goto (tgt := 18) hx hb d_M_refuse_6 (by decide) ?_
  refine va_put (D := (dC, dI)) (ci := 4) (v := .int 1) (ty := .int) (C := R_M) (T := F_M) (N := 33) hx hb hts (hin_of in_M) ft_M tk_M nm_M hown hK hP hD hS 0 rfl rfl 0 (by decide) (hw_of hts mw_469) (fun _ h9 => h9) rfl (by decide +kernel) rfl rfl (Nat.le_of_ble_eq_true rfl) d_M_refuse_18 (fun H locs hP hD hS => ?_)
  have hP : va_P (dC, dI) vC [(ad 20, eM ad 1 inn oun man kno cho kep dep cam csz clo chi)] H := hP
  have hD : va_D A [(ad 20, eM ad 1 inn oun man kno cho kep dep cam csz clo chi)] := hD
  refine lv_aload_n hx hb d_M_refuse_21 rfl (lv_at hl 0 rfl) ?_
  refine va_get (D := (dC, dI)) (ci := 4) (v := .int 1) (C := R_M) (T := F_M) (N := 33) hx hb hts (hin_of in_M) hown hK hP 0 rfl rfl 0 (by decide) (hw_of hts mw_469) (fun _ h9 => h9) rfl d_M_refuse_22 ?_
  refine lv_if_le (tgt := 32) hx hb d_M_refuse_25 (by decide) (fun h => absurd h (by decide)) (fun _ => ?_)
  refine lv_iconst (v := 1) hx hb d_M_refuse_28 (by decide) ?_
  refine lv_goto (tgt := 33) hx hb d_M_refuse_29 (by decide) ?_
  exact W.zret (v := 1) hx hb hr rfl (fun t ht hW => by exact kw_endi hP hD hK hS [0] rfl (by decide) rfl ht hW.alike) hS.2.2 d_M_refuse_33
set_option maxHeartbeats 4000000 in
set_option maxRecDepth 100000 in
theorem c_m_refuse2 (l : Launch) (dC : Nat → ClassId) (dI : Nat → Nat → Nat) (ad : Nat → Nat) (ca : Nat → ClassId) (thr : Int32) (inn : Int32) (oun : Int32) (man : Int32) (kno : Int32) (cho : Int32) (kep : Int32) (dep : Int32) (cam : Int32) (csz : Int32) (clo : Int64) (chi : Int64) (sz : Nat) : Met l y_M_refuse w_M_refuse ({ frames := 0, cells := 0, slots := 0, locals := 0 }) (kw_P [.ref (ad 20), .int 0, .int 1] sz (dC, dI) vC [(ad 20, eM ad thr inn oun man kno cho kep dep cam csz clo chi)] []) (kw_Qi (dC, dI) vC [] (va_A [(ad 20, eM ad thr inn oun man kno cho kep dep cam csz clo chi)] sz) [(ad 20, eM ad 2 inn oun man kno cho kep dep cam csz clo chi)] 1) 0 0 (va_A [(ad 20, eM ad thr inn oun man kno cho kep dep cam csz clo chi)] sz) := by
  refine Met.ofW (cc := b_M_refuse) (maxL := 3) (ret := (some .boolean)) (by decide) rfl ?_
  intro p e s m args below meth c s₁ B hml hv
  obtain ⟨rfl, hsz, hP, hK, hD0⟩ := hv
  have hx := B.exec
  have hb := B.bytes
  have hr := B.returns
  have hts := atoms_spec (ws := w_M_refuse) B.pre
  have hlocks := B.notSynchronized
  have hown : s.vm.findClass R_M = some m.cls := findClass_of_methodNamed B.named
  subst hsz
  have hD := hD0.self (sz := s.heap.size)
  generalize hAe : va_A [(ad 20, eM ad thr inn oun man kno cho kep dep cam csz clo chi)] s.heap.size = A at hD ⊢
  have hA : ∀ q : Nat, s.heap.size ≤ q → A q := fun q h => by rw [← hAe]; exact Or.inr h
  have hS : va_S A s.heap s.heap [] := va_S.rf
  have hP : va_P (dC, dI) vC [(ad 20, eM ad thr inn oun man kno cho kep dep cam csz clo chi)] s.heap := hP
  have hl := lv_entry ([.ref (ad 20), .int 0, .int 1]) (n := 3) (Nat.le_of_ble_eq_true rfl)
  rw [lg_entry_eq]
  generalize (lg_sl ([.ref (ad 20), .int 0, .int 1]) ++ List.replicate (3 - (lg_sl ([.ref (ad 20), .int 0, .int 1])).length) Slot.unset).toArray = ls at hl ⊢
  have hl : lv_has ls 3 [(0, .ref (ad 20)), (1, .int 0), (2, .int 1)] := hl
  refine lv_aload_n hx hb d_M_refuse_0 rfl (lv_at hl 0 rfl) ?_
  refine lv_iload_n hx hb d_M_refuse_1 rfl (lv_at hl 1 rfl) ?_
  refine lv_if_eq (tgt := 9) hx hb d_M_refuse_2 (by decide) (fun _ => ?_) (fun h => absurd (by decide) h)
  refine lv_iload_n hx hb d_M_refuse_9 rfl (lv_at hl 2 rfl) ?_
  refine lv_if_eq (tgt := 17) hx hb d_M_refuse_10 (by decide) (fun h => absurd h (by decide)) (fun _ => ?_)
  refine lv_iconst (v := 2) hx hb d_M_refuse_13 (by decide) ?_
  refine lv_goto (tgt := 18) hx hb d_M_refuse_14 (by decide) ?_
  refine va_put (D := (dC, dI)) (ci := 4) (v := .int 2) (ty := .int) (C := R_M) (T := F_M) (N := 33) hx hb hts (hin_of in_M) ft_M tk_M nm_M hown hK hP hD hS 0 rfl rfl 0 (by decide) (hw_of hts mw_469) (fun _ h9 => h9) rfl (by decide +kernel) rfl rfl (Nat.le_of_ble_eq_true rfl) d_M_refuse_18 (fun H locs hP hD hS => ?_)
  have hP : va_P (dC, dI) vC [(ad 20, eM ad 2 inn oun man kno cho kep dep cam csz clo chi)] H := hP
  have hD : va_D A [(ad 20, eM ad 2 inn oun man kno cho kep dep cam csz clo chi)] := hD
  refine lv_aload_n hx hb d_M_refuse_21 rfl (lv_at hl 0 rfl) ?_
  refine va_get (D := (dC, dI)) (ci := 4) (v := .int 2) (C := R_M) (T := F_M) (N := 33) hx hb hts (hin_of in_M) hown hK hP 0 rfl rfl 0 (by decide) (hw_of hts mw_469) (fun _ h9 => h9) rfl d_M_refuse_22 ?_
  refine lv_if_le (tgt := 32) hx hb d_M_refuse_25 (by decide) (fun h => absurd h (by decide)) (fun _ => ?_)
  refine lv_iconst (v := 1) hx hb d_M_refuse_28 (by decide) ?_
  refine lv_goto (tgt := 33) hx hb d_M_refuse_29 (by decide) ?_
  exact W.zret (v := 1) hx hb hr rfl (fun t ht hW => by exact kw_endi hP hD hK hS [0] rfl (by decide) rfl ht hW.alike) hS.2.2 d_M_refuse_33
set_option maxHeartbeats 4000000 in
set_option maxRecDepth 100000 in
theorem c_m_refuse0 (l : Launch) (dC : Nat → ClassId) (dI : Nat → Nat → Nat) (ad : Nat → Nat) (ca : Nat → ClassId) (thr : Int32) (inn : Int32) (oun : Int32) (man : Int32) (kno : Int32) (cho : Int32) (kep : Int32) (dep : Int32) (cam : Int32) (csz : Int32) (clo : Int64) (chi : Int64) (sz : Nat) : Met l y_M_refuse w_M_refuse ({ frames := 0, cells := 0, slots := 0, locals := 0 }) (kw_P [.ref (ad 20), .int 0, .int 0] sz (dC, dI) vC [(ad 20, eM ad thr inn oun man kno cho kep dep cam csz clo chi)] []) (kw_Qi (dC, dI) vC [] (va_A [(ad 20, eM ad thr inn oun man kno cho kep dep cam csz clo chi)] sz) [(ad 20, eM ad 0 inn oun man kno cho kep dep cam csz clo chi)] 0) 0 0 (va_A [(ad 20, eM ad thr inn oun man kno cho kep dep cam csz clo chi)] sz) := by
  refine Met.ofW (cc := b_M_refuse) (maxL := 3) (ret := (some .boolean)) (by decide) rfl ?_
  intro p e s m args below meth c s₁ B hml hv
  obtain ⟨rfl, hsz, hP, hK, hD0⟩ := hv
  have hx := B.exec
  have hb := B.bytes
  have hr := B.returns
  have hts := atoms_spec (ws := w_M_refuse) B.pre
  have hlocks := B.notSynchronized
  have hown : s.vm.findClass R_M = some m.cls := findClass_of_methodNamed B.named
  subst hsz
  have hD := hD0.self (sz := s.heap.size)
  generalize hAe : va_A [(ad 20, eM ad thr inn oun man kno cho kep dep cam csz clo chi)] s.heap.size = A at hD ⊢
  have hA : ∀ q : Nat, s.heap.size ≤ q → A q := fun q h => by rw [← hAe]; exact Or.inr h
  have hS : va_S A s.heap s.heap [] := va_S.rf
  have hP : va_P (dC, dI) vC [(ad 20, eM ad thr inn oun man kno cho kep dep cam csz clo chi)] s.heap := hP
  have hl := lv_entry ([.ref (ad 20), .int 0, .int 0]) (n := 3) (Nat.le_of_ble_eq_true rfl)
  rw [lg_entry_eq]
  generalize (lg_sl ([.ref (ad 20), .int 0, .int 0]) ++ List.replicate (3 - (lg_sl ([.ref (ad 20), .int 0, .int 0])).length) Slot.unset).toArray = ls at hl ⊢
  have hl : lv_has ls 3 [(0, .ref (ad 20)), (1, .int 0), (2, .int 0)] := hl
  refine lv_aload_n hx hb d_M_refuse_0 rfl (lv_at hl 0 rfl) ?_
  refine lv_iload_n hx hb d_M_refuse_1 rfl (lv_at hl 1 rfl) ?_
  refine lv_if_eq (tgt := 9) hx hb d_M_refuse_2 (by decide) (fun _ => ?_) (fun h => absurd (by decide) h)
  refine lv_iload_n hx hb d_M_refuse_9 rfl (lv_at hl 2 rfl) ?_
  refine lv_if_eq (tgt := 17) hx hb d_M_refuse_10 (by decide) (fun _ => ?_) (fun h => absurd (by decide) h)
  refine lv_iconst (v := 0) hx hb d_M_refuse_17 (by decide) ?_
  refine va_put (D := (dC, dI)) (ci := 4) (v := .int 0) (ty := .int) (C := R_M) (T := F_M) (N := 33) hx hb hts (hin_of in_M) ft_M tk_M nm_M hown hK hP hD hS 0 rfl rfl 0 (by decide) (hw_of hts mw_469) (fun _ h9 => h9) rfl (by decide +kernel) rfl rfl (Nat.le_of_ble_eq_true rfl) d_M_refuse_18 (fun H locs hP hD hS => ?_)
  have hP : va_P (dC, dI) vC [(ad 20, eM ad 0 inn oun man kno cho kep dep cam csz clo chi)] H := hP
  have hD : va_D A [(ad 20, eM ad 0 inn oun man kno cho kep dep cam csz clo chi)] := hD
  refine lv_aload_n hx hb d_M_refuse_21 rfl (lv_at hl 0 rfl) ?_
  refine va_get (D := (dC, dI)) (ci := 4) (v := .int 0) (C := R_M) (T := F_M) (N := 33) hx hb hts (hin_of in_M) hown hK hP 0 rfl rfl 0 (by decide) (hw_of hts mw_469) (fun _ h9 => h9) rfl d_M_refuse_22 ?_
  refine lv_if_le (tgt := 32) hx hb d_M_refuse_25 (by decide) (fun _ => ?_) (fun h => absurd (by decide) h)
  refine lv_iconst (v := 0) hx hb d_M_refuse_32 (by decide) ?_
  exact W.zret (v := 0) hx hb hr rfl (fun t ht hW => by exact kw_endi hP hD hK hS [0] rfl (by decide) rfl ht hW.alike) hS.2.2 d_M_refuse_33
set_option maxHeartbeats 4000000 in
set_option maxRecDepth 100000 in
theorem c_m_in (l : Launch) (dC : Nat → ClassId) (dI : Nat → Nat → Nat) (ad : Nat → Nat) (ca : Nat → ClassId) (vx : Int32) (lo : Int32) (hi : Int32) : Met l y_M_in w_M_in ({ frames := 0, cells := 0, slots := 0, locals := 0 }) (kr_P [.int vx, .int lo, .int hi] (dC, dI) vC [] []) (vp_Si (fun r => r = (if (!decide (vx < lo) && !decide (hi < vx)) = true then (1 : Int32) else 0))) 0 0 (fun _ => False) := by
  refine Met.ofW (cc := b_M_in) (maxL := 3) (ret := (some .boolean)) (by decide) rfl ?_
  intro p e s m args below meth c s₁ B hml hv
  obtain ⟨rfl, hP, hK⟩ := hv
  have hx := B.exec
  have hb := B.bytes
  have hr := B.returns
  have hts := atoms_spec (ws := w_M_in) B.pre
  have hlocks := B.notSynchronized
  have hown : s.vm.findClass R_M = some m.cls := findClass_of_methodNamed B.named
  have hl := lv_entry ([.int vx, .int lo, .int hi]) (n := 3) (Nat.le_of_ble_eq_true rfl)
  rw [lg_entry_eq]
  generalize (lg_sl ([.int vx, .int lo, .int hi]) ++ List.replicate (3 - (lg_sl ([.int vx, .int lo, .int hi])).length) Slot.unset).toArray = ls at hl ⊢
  have hl : lv_has ls 3 [(0, .int vx), (1, .int lo), (2, .int hi)] := hl
  refine lv_iload_n hx hb d_M_in_0 rfl (lv_at hl 0 rfl) ?_
  refine lv_iload_n hx hb d_M_in_1 rfl (lv_at hl 1 rfl) ?_
  refine lv_icmp_lt (tgt := 14) hx hb d_M_in_2 (by decide) (fun c_2 => ?_) (fun c_2 => ?_)
  · refine lv_iconst (v := 0) hx hb d_M_in_14 (by decide) ?_
    exact W.zret (v := 0) hx hb hr rfl (fun t ht hW => ⟨0, rfl, by (first | rw [decide_eq_true c_2] | rw [decide_eq_false c_2] | rw [decide_eq_false (Nat.not_lt.mpr c_2)] | rw [decide_eq_false (Nat.not_le.mpr c_2)] | rw [c_2] | skip); rfl, ht⟩) (fun q h => by cases h) d_M_in_15
  · refine lv_iload_n hx hb d_M_in_5 rfl (lv_at hl 0 rfl) ?_
    refine lv_iload_n hx hb d_M_in_6 rfl (lv_at hl 2 rfl) ?_
    refine lv_icmp_gt (tgt := 14) hx hb d_M_in_7 (by decide) (fun c_7 => ?_) (fun c_7 => ?_)
    · refine lv_iconst (v := 0) hx hb d_M_in_14 (by decide) ?_
      exact W.zret (v := 0) hx hb hr rfl (fun t ht hW => ⟨0, rfl, by (first | rw [decide_eq_true c_2] | rw [decide_eq_false c_2] | rw [decide_eq_false (Nat.not_lt.mpr c_2)] | rw [decide_eq_false (Nat.not_le.mpr c_2)] | rw [c_2] | skip); (first | rw [decide_eq_true c_7] | rw [decide_eq_false c_7] | rw [decide_eq_false (Nat.not_lt.mpr c_7)] | rw [decide_eq_false (Nat.not_le.mpr c_7)] | rw [c_7] | skip); rfl, ht⟩) (fun q h => by cases h) d_M_in_15
    · refine lv_iconst (v := 1) hx hb d_M_in_10 (by decide) ?_
      refine lv_goto (tgt := 15) hx hb d_M_in_11 (by decide) ?_
      exact W.zret (v := 1) hx hb hr rfl (fun t ht hW => ⟨1, rfl, by (first | rw [decide_eq_true c_2] | rw [decide_eq_false c_2] | rw [decide_eq_false (Nat.not_lt.mpr c_2)] | rw [decide_eq_false (Nat.not_le.mpr c_2)] | rw [c_2] | skip); (first | rw [decide_eq_true c_7] | rw [decide_eq_false c_7] | rw [decide_eq_false (Nat.not_lt.mpr c_7)] | rw [decide_eq_false (Nat.not_le.mpr c_7)] | rw [c_7] | skip); rfl, ht⟩) (fun q h => by cases h) d_M_in_15
set_option maxHeartbeats 4000000 in
set_option maxRecDepth 100000 in
theorem c_m_all (l : Launch) (dC : Nat → ClassId) (dI : Nat → Nat → Nat) (ad : Nat → Nat) (ca : Nat → ClassId) (thr : Int32) (inn : Int32) (oun : Int32) (man : Int32) (kno : Int32) (cho : Int32) (kep : Int32) (dep : Int32) (cam : Int32) (csz : Int32) (clo : Int64) (chi : Int64) : Met l y_M_all w_M_all ({ frames := 0, cells := 0, slots := 0, locals := 0 }) (kr_P [.ref (ad 20)] (dC, dI) vC [(ad 20, eM ad thr inn oun man kno cho kep dep cam csz clo chi)] []) (vp_Si (fun r => r = mc_all inn)) 0 0 (fun _ => False) := by
  refine Met.ofW (cc := b_M_all) (maxL := 1) (ret := (some .int)) (by decide) rfl ?_
  intro p e s m args below meth c s₁ B hml hv
  obtain ⟨rfl, hP, hK⟩ := hv
  have hx := B.exec
  have hb := B.bytes
  have hr := B.returns
  have hts := atoms_spec (ws := w_M_all) B.pre
  have hlocks := B.notSynchronized
  have hown : s.vm.findClass R_M = some m.cls := findClass_of_methodNamed B.named
  have hl := lv_entry ([.ref (ad 20)]) (n := 1) (Nat.le_of_ble_eq_true rfl)
  rw [lg_entry_eq]
  generalize (lg_sl ([.ref (ad 20)]) ++ List.replicate (1 - (lg_sl ([.ref (ad 20)])).length) Slot.unset).toArray = ls at hl ⊢
  have hl : lv_has ls 1 [(0, .ref (ad 20))] := hl
  refine lv_iconst (v := 1) hx hb d_M_all_0 (by decide) ?_
  refine lv_iconst (v := 1) hx hb d_M_all_1 (by decide) ?_
  refine lv_aload_n hx hb d_M_all_2 rfl (lv_at hl 0 rfl) ?_
  refine va_get (D := (dC, dI)) (ci := 4) (v := .int inn) (C := R_M) (T := F_M) (N := 33) hx hb hts (hin_of in_M) hown hK hP 0 rfl rfl 1 (by decide) (hw_of hts mw_470) (fun _ h9 => h9) rfl d_M_all_3 ?_
  refine lv_ishl hx hb d_M_all_6 ?_
  refine lv_ishl hx hb d_M_all_7 ?_
  refine lv_iconst (v := 1) hx hb d_M_all_8 (by decide) ?_
  refine lv_isub hx hb d_M_all_9 ?_
  exact W.iret (v := ((1 : Int32) <<< (((1 : Int32) <<< (inn &&& 31)) &&& 31)) - 1) hx hb hr (fun t ht hW => ⟨((1 : Int32) <<< (((1 : Int32) <<< (inn &&& 31)) &&& 31)) - 1, rfl, rfl, ht⟩) (fun q h => by cases h) d_M_all_10
set_option maxHeartbeats 4000000 in
set_option maxRecDepth 100000 in
theorem c_m_digit (l : Launch) (dC : Nat → ClassId) (dI : Nat → Nat → Nat) (ad : Nat → Nat) (ca : Nat → ClassId) (pn : Nat) (kn : Nat) (hpn : pn < 81) (hkn : kn < 2 ^ 20) : Met l y_M_digit w_M_digit ({ frames := 0, cells := 0, slots := 0, locals := 0 }) (kr_P [.int (nI pn), .int (nI kn)] (dC, dI) vC [] []) (vp_Si (fun r => r = nI (pn / 3 ^ kn % 3))) 0 0 (fun _ => False) := by
  refine Met.ofW (cc := b_M_digit) (maxL := 4) (ret := (some .int)) (by decide) rfl ?_
  intro p e s m args below meth c s₁ B hml hv
  obtain ⟨rfl, hP, hK⟩ := hv
  have hx := B.exec
  have hb := B.bytes
  have hr := B.returns
  have hts := atoms_spec (ws := w_M_digit) B.pre
  have hlocks := B.notSynchronized
  have hown : s.vm.findClass R_M = some m.cls := findClass_of_methodNamed B.named
  have hl := lv_entry ([.int (nI pn), .int (nI kn)]) (n := 4) (Nat.le_of_ble_eq_true rfl)
  rw [lg_entry_eq]
  generalize (lg_sl ([.int (nI pn), .int (nI kn)]) ++ List.replicate (4 - (lg_sl ([.int (nI pn), .int (nI kn)])).length) Slot.unset).toArray = ls at hl ⊢
  have hl : lv_has ls 4 [(0, .int (nI pn)), (1, .int (nI kn))] := hl
  refine lv_iload_n hx hb d_M_digit_0 rfl (lv_at hl 0 rfl) ?_
  refine lv_istore_n (lv' := [(2, .int (nI pn)), (0, .int (nI pn)), (1, .int (nI kn))]) hx hb d_M_digit_1 rfl hl (by decide) rfl (fun ls hl => ?_)
  refine lv_iconst (v := 0) hx hb d_M_digit_2 (by decide) ?_
  refine lv_istore_n (lv' := [(3, .int 0), (2, .int (nI pn)), (0, .int (nI pn)), (1, .int (nI kn))]) hx hb d_M_digit_3 rfl hl (by decide) rfl (fun ls hl => ?_)
  refine k_loopR (fun iv ls => lv_has ls 4 [(0, .int (nI pn)), (1, .int (nI kn)), (2, .int (nI (pn / 3 ^ iv))), (3, .int (nI iv))] ∧ True) kn ?_ 0 _ (Nat.zero_le _) ?_
  · intro iv ls hiiv hI ihiv
    obtain ⟨hl, -⟩ := hI
    refine lv_iload_n hx hb d_M_digit_4 rfl (lv_at hl 3 rfl) ?_
    refine lv_iload_n hx hb d_M_digit_5 rfl (lv_at hl 1 rfl) ?_
    refine k_ge (a := iv) (b := kn) (tgt := 19) hx hb rfl rfl (by omega) (by omega) d_M_digit_6 (by decide) (fun c_6 => ?_) (fun c_6 => ?_)
    · obtain rfl : kn = iv := by omega
      refine lv_iload_n hx hb d_M_digit_19 rfl (lv_at hl 2 rfl) ?_
      refine lv_iconst (v := 3) hx hb d_M_digit_20 (by decide) ?_
      refine k_irem (a := pn / 3 ^ kn) (b := 3) hx hb rfl rfl (div_lt hpn) (by omega) (by omega) d_M_digit_21 ?_
      exact W.iret (v := nI ((pn / 3 ^ kn) % 3)) hx hb hr (fun t ht hW => ⟨nI ((pn / 3 ^ kn) % 3), rfl, rfl, ht⟩) (fun q h => by cases h) d_M_digit_22
    · refine lv_iload_n hx hb d_M_digit_9 rfl (lv_at hl 2 rfl) ?_
      refine lv_iconst (v := 3) hx hb d_M_digit_10 (by decide) ?_
      refine k_idiv (a := pn / 3 ^ iv) (b := 3) hx hb rfl rfl (div_lt hpn) (by omega) (by omega) d_M_digit_11 ?_
      refine lv_istore_n (lv' := [(2, .int (nI ((pn / 3 ^ iv) / 3))), (0, .int (nI pn)), (1, .int (nI kn)), (3, .int (nI iv))]) hx hb d_M_digit_12 rfl hl (by decide) rfl (fun ls hl => ?_)
      refine lv_iinc (v := nI (iv + 1)) (lv' := [(3, .int (nI (iv + 1))), (2, .int (nI ((pn / 3 ^ iv) / 3))), (0, .int (nI pn)), (1, .int (nI kn))]) hx hb d_M_digit_13 hl (k := 3) rfl (k_inc _) (by decide) rfl (fun ls hl => ?_)
      refine lv_goto (tgt := 4) hx hb d_M_digit_16 (by decide) ?_
      refine ihiv _ (by omega) ?_
      have e_1 : nI (pn / 3 ^ (iv + 1)) = nI ((pn / 3 ^ iv) / 3) := by rw [Nat.pow_succ, Nat.div_div_eq_div_mul]
      exact ⟨by (try rw [e_1]); exact lv_sub hl [2, 3, 1, 0] rfl, trivial⟩
  · have hdone : True := trivial
    have e_2 : nI (pn / 3 ^ 0) = nI pn := by simp
    have e_3 : nI 0 = 0 := rfl
    exact ⟨by (try rw [e_2]); (try rw [e_3]); exact lv_sub hl [2, 3, 1, 0] rfl, trivial⟩
set_option maxHeartbeats 4000000 in
set_option maxRecDepth 100000 in
theorem c_m_productsOf (l : Launch) (dC : Nat → ClassId) (dI : Nat → Nat → Nat) (ad : Nat → Nat) (ca : Nat → ClassId) (thr : Int32) (nn : Nat) (oun : Int32) (man : Int32) (kno : Int32) (cho : Int32) (kep : Int32) (dep : Int32) (cam : Int32) (csz : Int32) (clo : Int64) (chi : Int64) (hn1 : 1 ≤ nn) (hn4 : nn ≤ 4) : Met l y_M_productsOf w_M_productsOf ({ frames := 0, cells := 0, slots := 0, locals := 0 }) (kr_P [.ref (ad 20)] (dC, dI) vC [(ad 20, eM ad thr (nI nn) oun man kno cho kep dep cam csz clo chi)] []) (vp_Si (fun r => r = nI (tpow nn))) 0 0 (fun _ => False) := by
  refine Met.ofW (cc := b_M_productsOf) (maxL := 1) (ret := (some .int)) (by decide) rfl ?_
  intro p e s m args below meth c s₁ B hml hv
  obtain ⟨rfl, hP, hK⟩ := hv
  have hx := B.exec
  have hb := B.bytes
  have hr := B.returns
  have hts := atoms_spec (ws := w_M_productsOf) B.pre
  have hlocks := B.notSynchronized
  have hown : s.vm.findClass R_M = some m.cls := findClass_of_methodNamed B.named
  have hl := lv_entry ([.ref (ad 20)]) (n := 1) (Nat.le_of_ble_eq_true rfl)
  rw [lg_entry_eq]
  generalize (lg_sl ([.ref (ad 20)]) ++ List.replicate (1 - (lg_sl ([.ref (ad 20)])).length) Slot.unset).toArray = ls at hl ⊢
  have hl : lv_has ls 1 [(0, .ref (ad 20))] := hl
  refine lv_aload_n hx hb d_M_productsOf_0 rfl (lv_at hl 0 rfl) ?_
  refine va_get (D := (dC, dI)) (ci := 4) (v := .int (nI nn)) (C := R_M) (T := F_M) (N := 33) hx hb hts (hin_of in_M) hown hK hP 0 rfl rfl 1 (by decide) (hw_of hts mw_470) (fun _ h9 => h9) rfl d_M_productsOf_1 ?_
  refine lv_iconst (v := 1) hx hb d_M_productsOf_4 (by decide) ?_
  refine k_ne (a := nn) (b := 1) (tgt := 12) hx hb rfl rfl (by omega) (by omega) d_M_productsOf_5 (by decide) (fun c_5 => ?_) (fun c_5 => ?_)
  · refine lv_aload_n hx hb d_M_productsOf_12 rfl (lv_at hl 0 rfl) ?_
    refine va_get (D := (dC, dI)) (ci := 4) (v := .int (nI nn)) (C := R_M) (T := F_M) (N := 33) hx hb hts (hin_of in_M) hown hK hP 0 rfl rfl 1 (by decide) (hw_of hts mw_470) (fun _ h9 => h9) rfl d_M_productsOf_13 ?_
    refine lv_iconst (v := 2) hx hb d_M_productsOf_16 (by decide) ?_
    refine k_ne (a := nn) (b := 2) (tgt := 25) hx hb rfl rfl (by omega) (by omega) d_M_productsOf_17 (by decide) (fun c_17 => ?_) (fun c_17 => ?_)
    · refine lv_aload_n hx hb d_M_productsOf_25 rfl (lv_at hl 0 rfl) ?_
      refine va_get (D := (dC, dI)) (ci := 4) (v := .int (nI nn)) (C := R_M) (T := F_M) (N := 33) hx hb hts (hin_of in_M) hown hK hP 0 rfl rfl 1 (by decide) (hw_of hts mw_470) (fun _ h9 => h9) rfl d_M_productsOf_26 ?_
      refine lv_iconst (v := 3) hx hb d_M_productsOf_29 (by decide) ?_
      refine k_ne (a := nn) (b := 3) (tgt := 38) hx hb rfl rfl (by omega) (by omega) d_M_productsOf_30 (by decide) (fun c_30 => ?_) (fun c_30 => ?_)
      · refine lv_bipush (v := 81) hx hb d_M_productsOf_38 (by decide) ?_
        exact W.iret (v := 81) hx hb hr (fun t ht hW => ⟨81, rfl, by rw [show nn = 4 by omega]; rfl, ht⟩) (fun q h => by cases h) d_M_productsOf_40
      · refine lv_bipush (v := 27) hx hb d_M_productsOf_33 (by decide) ?_
        refine lv_goto (tgt := 40) hx hb d_M_productsOf_35 (by decide) ?_
        exact W.iret (v := 27) hx hb hr (fun t ht hW => ⟨27, rfl, by rw [show nn = 3 by omega]; rfl, ht⟩) (fun q h => by cases h) d_M_productsOf_40
    · refine lv_bipush (v := 9) hx hb d_M_productsOf_20 (by decide) ?_
      refine lv_goto (tgt := 40) hx hb d_M_productsOf_22 (by decide) ?_
      exact W.iret (v := 9) hx hb hr (fun t ht hW => ⟨9, rfl, by rw [show nn = 2 by omega]; rfl, ht⟩) (fun q h => by cases h) d_M_productsOf_40
  · refine lv_iconst (v := 3) hx hb d_M_productsOf_8 (by decide) ?_
    refine lv_goto (tgt := 40) hx hb d_M_productsOf_9 (by decide) ?_
    exact W.iret (v := 3) hx hb hr (fun t ht hW => ⟨3, rfl, by rw [show nn = 1 by omega]; rfl, ht⟩) (fun q h => by cases h) d_M_productsOf_40
