set_option maxHeartbeats 4000000 in
set_option maxRecDepth 100000 in
theorem c_m_isCandidate (l : Launch) (dC : Nat → ClassId) (dI : Nat → Nat → Nat) (ad : Nat → Nat) (ca : Nat → ClassId) (thr : Int32) (nn : Nat) (mo : Nat) (man : Int32) (kno : Int32) (cho : Int32) (kep : Int32) (dep : Int32) (cam : Int32) (csz : Int32) (clo : Int64) (chi : Int64) (one : Nat → Int32) (any : Nat → Int32) (pn : Nat) (hpn : pn < 81) (hn4 : nn ≤ 4) (hmo : mo ≤ 2) : Met l y_M_isCandidate w_M_isCandidate ({ frames := 3, cells := 0, slots := 0, locals := 80 }) (kr_P [.ref (ad 20), .int (nI pn)] (dC, dI) vC [(ad 20, eM ad thr (nI nn) (nI mo) man kno cho kep dep cam csz clo chi), (ad 21, eI 2 (ca 21) one), (ad 22, eI 2 (ca 22) any)] [(ca 21, .int), (ca 22, .int)]) (vp_Si (fun r => r = (if (mo_ca nn mo one any pn) = true then (1 : Int32) else 0))) 0 0 (fun _ => False) := by
  refine Met.ofW (cc := b_M_isCandidate) (maxL := 7) (ret := (some .boolean)) (by decide) rfl ?_
  intro p e s m args below meth c s₁ B hml hv
  obtain ⟨rfl, hP, hK⟩ := hv
  have hx := B.exec
  have hb := B.bytes
  have hr := B.returns
  have hts := atoms_spec (ws := w_M_isCandidate) B.pre
  have hlocks := B.notSynchronized
  have hown : s.vm.findClass R_M = some m.cls := findClass_of_methodNamed B.named
  have hl := lv_entry ([.ref (ad 20), .int (nI pn)]) (n := 7) (Nat.le_of_ble_eq_true rfl)
  rw [lg_entry_eq]
  generalize (lg_sl ([.ref (ad 20), .int (nI pn)]) ++ List.replicate (7 - (lg_sl ([.ref (ad 20), .int (nI pn)])).length) Slot.unset).toArray = ls at hl ⊢
  have hl : lv_has ls 7 [(0, .ref (ad 20)), (1, .int (nI pn))] := hl
  refine lv_aload_n hx hb d_M_isCandidate_0 rfl (lv_at hl 0 rfl) ?_
  refine lv_iload_n hx hb d_M_isCandidate_1 rfl (lv_at hl 1 rfl) ?_
  have hPc := hP.sub (ws' := [(ad 20, eM ad thr (nI nn) (nI mo) man kno cho kep dep cam csz clo chi), (ad 21, eI 2 (ca 21) one), (ad 22, eI 2 (ca 22) any)]) [0, 1, 2] rfl
  have hKc := hK.sub (tys' := [(ca 21, .int), (ca 22, .int)]) [0, 1] rfl
  refine vp_callSi (W.runV (As := [.int (nI pn)]) (rest := []) ⟨hx, hb, hml, hown, hts⟩ (c_m_outputsOf l dC dI ad ca thr nn mo man kno cho kep dep cam csz clo chi one any pn (by omega) (by omega) (by omega)) (cwV 1 hts (gd_V mw_609 mw_611 mw_26 mw_44 mw_612) rfl rfl rfl (by decide +kernel) ⟨Nat.le_of_ble_eq_true rfl, Nat.le_of_ble_eq_true rfl⟩) (kr_V (q0 := 0) (ci := 4) hKc hPc rfl rfl) rfl rfl hl.1 rfl (lv_room (Nat.le_of_ble_eq_true rfl)) d_M_isCandidate_2 ⟨Nat.zero_le _, Nat.zero_le _⟩) (fun r hq => ?_)
  subst hq
  refine lv_istore_n (lv' := [(2, .int (mo_out nn mo one any pn)), (0, .ref (ad 20)), (1, .int (nI pn))]) hx hb d_M_isCandidate_5 rfl hl (by decide) rfl (fun ls hl => ?_)
  refine lv_iload_n hx hb d_M_isCandidate_6 rfl (lv_at hl 0 rfl) ?_
  refine lv_if_eq (tgt := 14) hx hb d_M_isCandidate_7 (by decide) (fun c_7 => ?_) (fun c_7 => ?_)
  · refine lv_iconst (v := 0) hx hb d_M_isCandidate_14 (by decide) ?_
    refine lv_istore_n (lv' := [(3, .int 0), (2, .int (mo_out nn mo one any pn)), (0, .ref (ad 20)), (1, .int (nI pn))]) hx hb d_M_isCandidate_15 rfl hl (by decide) rfl (fun ls hl => ?_)
    refine lv_iconst (v := 1) hx hb d_M_isCandidate_16 (by decide) ?_
    refine lv_istore (lv' := [(4, .int 1), (3, .int 0), (2, .int (mo_out nn mo one any pn)), (0, .ref (ad 20)), (1, .int (nI pn))]) hx hb d_M_isCandidate_17 hl (by decide) rfl (fun ls hl => ?_)
    refine lv_iconst (v := 0) hx hb d_M_isCandidate_19 (by decide) ?_
    refine lv_istore (lv' := [(5, .int 0), (4, .int 1), (3, .int 0), (2, .int (mo_out nn mo one any pn)), (0, .ref (ad 20)), (1, .int (nI pn))]) hx hb d_M_isCandidate_20 hl (by decide) rfl (fun ls hl => ?_)
    refine k_loopR (fun kv ls => lv_has ls 7 [(0, .ref (ad 20)), (1, .int (nI pn)), (2, .int (mo_out nn mo one any pn)), (3, .int (if (fo (mo_caf nn mo one any pn) kv (!decide (mo_out nn mo one any pn = 0))) = true then (1 : Int32) else 0)), (4, .int (nI (3 ^ kv))), (5, .int (nI kv))] ∧ True) nn ?_ 0 _ (Nat.zero_le _) ?_
    · intro kv ls hikv hI ihkv
      obtain ⟨hl, -⟩ := hI
      refine lv_iload hx hb d_M_isCandidate_22 (lv_at hl 5 rfl) ?_
      refine lv_aload_n hx hb d_M_isCandidate_24 rfl (lv_at hl 0 rfl) ?_
      refine va_get (D := (dC, dI)) (ci := 4) (v := .int (nI nn)) (C := R_M) (T := F_M) (N := 33) hx hb hts (hin_of in_M) hown hK hP 0 rfl rfl 1 (by decide) (hw_of hts mw_470) (fun _ h9 => h9) rfl d_M_isCandidate_25 ?_
      refine k_ge (a := kv) (b := nn) (tgt := 81) hx hb rfl rfl (by omega) (by omega) d_M_isCandidate_28 (by decide) (fun c_28 => ?_) (fun c_28 => ?_)
      · obtain rfl : nn = kv := by omega
        refine lv_iload_n hx hb d_M_isCandidate_81 rfl (lv_at hl 3 rfl) ?_
        exact W.zret (v := (if (fo (mo_caf nn mo one any pn) nn (!decide (mo_out nn mo one any pn = 0))) = true then (1 : Int32) else 0)) hx hb hr (nar_b _) (fun t ht hW => ⟨(if (fo (mo_caf nn mo one any pn) nn (!decide (mo_out nn mo one any pn = 0))) = true then (1 : Int32) else 0), rfl, rfl, ht⟩) (fun q h => by cases h) d_M_isCandidate_82
      · refine lv_iload_n hx hb d_M_isCandidate_31 rfl (lv_at hl 1 rfl) ?_
        refine lv_iload hx hb d_M_isCandidate_32 (lv_at hl 5 rfl) ?_
        have hPc := hP.sub (ws' := []) [] rfl
        have hKc := hK.sub (tys' := []) [] rfl
        refine vp_callSi (W.runS (As := [.int (nI pn), .int (nI kv)]) (rest := []) ⟨hx, hb, hml, hown, hts⟩ (c_m_digit l dC dI ad ca pn kv (by omega) (by omega)) (va_cwS 2 hts (gd_S mw_617 mw_618 mw_44 mw_619) rfl rfl rfl (by decide +kernel) ⟨Nat.le_of_ble_eq_true rfl, Nat.le_of_ble_eq_true rfl⟩) (kr_S hKc hPc) rfl rfl hl.1 rfl (lv_room (Nat.le_of_ble_eq_true rfl)) d_M_isCandidate_34 ⟨Nat.zero_le _, Nat.zero_le _⟩) (fun r hq => ?_)
        subst hq
        refine lv_istore (lv' := [(6, .int (nI (pn / 3 ^ kv % 3))), (0, .ref (ad 20)), (1, .int (nI pn)), (2, .int (mo_out nn mo one any pn)), (3, .int (if (fo (mo_caf nn mo one any pn) kv (!decide (mo_out nn mo one any pn = 0))) = true then (1 : Int32) else 0)), (4, .int (nI (3 ^ kv))), (5, .int (nI kv))]) hx hb d_M_isCandidate_37 hl (by decide) rfl (fun ls hl => ?_)
        refine lv_iload_n hx hb d_M_isCandidate_39 rfl (lv_at hl 4 rfl) ?_
        refine k_beq (b := (fo (mo_caf nn mo one any pn) kv (!decide (mo_out nn mo one any pn = 0)))) (tgt := 67) hx hb d_M_isCandidate_40 (by decide) (fun c_40 => ?_) (fun c_40 => ?_)
        · refine lv_iconst (v := 0) hx hb d_M_isCandidate_67 (by decide) ?_
          refine lv_istore_n (lv' := [(3, .int 0), (6, .int (nI (pn / 3 ^ kv % 3))), (0, .ref (ad 20)), (1, .int (nI pn)), (2, .int (mo_out nn mo one any pn)), (4, .int (nI (3 ^ kv))), (5, .int (nI kv))]) hx hb d_M_isCandidate_68 rfl hl (by decide) rfl (fun ls hl => ?_)
          refine lv_iconst (v := 3) hx hb d_M_isCandidate_69 (by decide) ?_
          refine lv_iload hx hb d_M_isCandidate_70 (lv_at hl 5 rfl) ?_
          refine k_imul (a := 3) (b := 3 ^ kv) hx hb rfl rfl d_M_isCandidate_72 ?_
          refine lv_istore (lv' := [(4, .int (nI (3 * (3 ^ kv)))), (3, .int 0), (6, .int (nI (pn / 3 ^ kv % 3))), (0, .ref (ad 20)), (1, .int (nI pn)), (2, .int (mo_out nn mo one any pn)), (5, .int (nI kv))]) hx hb d_M_isCandidate_73 hl (by decide) rfl (fun ls hl => ?_)
          refine lv_iinc (v := nI (kv + 1)) (lv' := [(5, .int (nI (kv + 1))), (4, .int (nI (3 * (3 ^ kv)))), (3, .int 0), (6, .int (nI (pn / 3 ^ kv % 3))), (0, .ref (ad 20)), (1, .int (nI pn)), (2, .int (mo_out nn mo one any pn))]) hx hb d_M_isCandidate_75 hl (k := 6) rfl (k_inc _) (by decide) rfl (fun ls hl => ?_)
          refine lv_goto (tgt := 22) hx hb d_M_isCandidate_78 (by decide) ?_
          refine ihkv _ (by omega) ?_
          have e_1 : (if (fo (mo_caf nn mo one any pn) (kv + 1) (!decide (mo_out nn mo one any pn = 0))) = true then (1 : Int32) else 0) = 0 := by rw [fo_s, mo_caf_s, c_40]; (try rw [decide_eq_true c_45]); (try rw [decide_eq_false c_45]); (try rw [decide_eq_true c_60]); (try rw [decide_eq_false c_60]); rfl
          have e_2 : nI (3 ^ (kv + 1)) = nI (3 * (3 ^ kv)) := by rw [Nat.pow_succ, Nat.mul_comm]
          exact ⟨by (try rw [e_1]); (try rw [e_2]); exact lv_sub hl [4, 5, 6, 2, 1, 0] rfl, trivial⟩
        · refine lv_iload hx hb d_M_isCandidate_43 (lv_at hl 0 rfl) ?_
          refine k_zeq (a := pn / 3 ^ kv % 3) (tgt := 63) hx hb rfl (by omega) d_M_isCandidate_45 (by decide) (fun c_45 => ?_) (fun c_45 => ?_)
          · refine lv_iconst (v := 1) hx hb d_M_isCandidate_63 (by decide) ?_
            refine lv_goto (tgt := 68) hx hb d_M_isCandidate_64 (by decide) ?_
            refine lv_istore_n (lv' := [(3, .int 1), (6, .int (nI (pn / 3 ^ kv % 3))), (0, .ref (ad 20)), (1, .int (nI pn)), (2, .int (mo_out nn mo one any pn)), (4, .int (nI (3 ^ kv))), (5, .int (nI kv))]) hx hb d_M_isCandidate_68 rfl hl (by decide) rfl (fun ls hl => ?_)
            refine lv_iconst (v := 3) hx hb d_M_isCandidate_69 (by decide) ?_
            refine lv_iload hx hb d_M_isCandidate_70 (lv_at hl 5 rfl) ?_
            refine k_imul (a := 3) (b := 3 ^ kv) hx hb rfl rfl d_M_isCandidate_72 ?_
            refine lv_istore (lv' := [(4, .int (nI (3 * (3 ^ kv)))), (3, .int 1), (6, .int (nI (pn / 3 ^ kv % 3))), (0, .ref (ad 20)), (1, .int (nI pn)), (2, .int (mo_out nn mo one any pn)), (5, .int (nI kv))]) hx hb d_M_isCandidate_73 hl (by decide) rfl (fun ls hl => ?_)
            refine lv_iinc (v := nI (kv + 1)) (lv' := [(5, .int (nI (kv + 1))), (4, .int (nI (3 * (3 ^ kv)))), (3, .int 1), (6, .int (nI (pn / 3 ^ kv % 3))), (0, .ref (ad 20)), (1, .int (nI pn)), (2, .int (mo_out nn mo one any pn))]) hx hb d_M_isCandidate_75 hl (k := 6) rfl (k_inc _) (by decide) rfl (fun ls hl => ?_)
            refine lv_goto (tgt := 22) hx hb d_M_isCandidate_78 (by decide) ?_
            refine ihkv _ (by omega) ?_
            have e_3 : (if (fo (mo_caf nn mo one any pn) (kv + 1) (!decide (mo_out nn mo one any pn = 0))) = true then (1 : Int32) else 0) = 1 := by rw [fo_s, mo_caf_s, c_40]; (try rw [decide_eq_true c_45]); (try rw [decide_eq_false c_45]); (try rw [decide_eq_true c_60]); (try rw [decide_eq_false c_60]); rfl
            have e_4 : nI (3 ^ (kv + 1)) = nI (3 * (3 ^ kv)) := by rw [Nat.pow_succ, Nat.mul_comm]
            exact ⟨by (try rw [e_3]); (try rw [e_4]); exact lv_sub hl [4, 5, 6, 2, 1, 0] rfl, trivial⟩
          · refine lv_aload_n hx hb d_M_isCandidate_48 rfl (lv_at hl 1 rfl) ?_
            refine lv_iload_n hx hb d_M_isCandidate_49 rfl (lv_at hl 2 rfl) ?_
            refine lv_iload hx hb d_M_isCandidate_50 (lv_at hl 0 rfl) ?_
            refine lv_iload hx hb d_M_isCandidate_52 (lv_at hl 5 rfl) ?_
            refine k_imul (a := pn / 3 ^ kv % 3) (b := 3 ^ kv) hx hb rfl rfl d_M_isCandidate_54 ?_
            refine k_isub (a := pn) (b := (pn / 3 ^ kv % 3) * (3 ^ kv)) hx hb rfl rfl (dig_le pn kv) d_M_isCandidate_55 ?_
            have hPc := hP.sub (ws' := [(ad 20, eM ad thr (nI nn) (nI mo) man kno cho kep dep cam csz clo chi), (ad 21, eI 2 (ca 21) one), (ad 22, eI 2 (ca 22) any)]) [0, 1, 2] rfl
            have hKc := hK.sub (tys' := [(ca 21, .int), (ca 22, .int)]) [0, 1] rfl
            refine vp_callSi (W.runV (As := [.int (nI (pn - ((pn / 3 ^ kv % 3) * (3 ^ kv))))]) (rest := []) ⟨hx, hb, hml, hown, hts⟩ (c_m_outputsOf l dC dI ad ca thr nn mo man kno cho kep dep cam csz clo chi one any (pn - ((pn / 3 ^ kv % 3) * (3 ^ kv))) (Nat.lt_of_le_of_lt (Nat.sub_le _ _) hpn) (by omega) (by omega)) (cwV 1 hts (gd_V mw_609 mw_611 mw_26 mw_44 mw_612) rfl rfl rfl (by decide +kernel) ⟨Nat.le_of_ble_eq_true rfl, Nat.le_of_ble_eq_true rfl⟩) (kr_V (q0 := 0) (ci := 4) hKc hPc rfl rfl) rfl rfl hl.1 rfl (lv_room (Nat.le_of_ble_eq_true rfl)) d_M_isCandidate_56 ⟨Nat.zero_le _, Nat.zero_le _⟩) (fun r hq => ?_)
            subst hq
            refine lv_iload_n hx hb d_M_isCandidate_59 rfl (lv_at hl 3 rfl) ?_
            refine lv_icmp_eq (tgt := 67) hx hb d_M_isCandidate_60 (by decide) (fun c_60 => ?_) (fun c_60 => ?_)
            · refine lv_iconst (v := 0) hx hb d_M_isCandidate_67 (by decide) ?_
              refine lv_istore_n (lv' := [(3, .int 0), (6, .int (nI (pn / 3 ^ kv % 3))), (0, .ref (ad 20)), (1, .int (nI pn)), (2, .int (mo_out nn mo one any pn)), (4, .int (nI (3 ^ kv))), (5, .int (nI kv))]) hx hb d_M_isCandidate_68 rfl hl (by decide) rfl (fun ls hl => ?_)
              refine lv_iconst (v := 3) hx hb d_M_isCandidate_69 (by decide) ?_
              refine lv_iload hx hb d_M_isCandidate_70 (lv_at hl 5 rfl) ?_
              refine k_imul (a := 3) (b := 3 ^ kv) hx hb rfl rfl d_M_isCandidate_72 ?_
              refine lv_istore (lv' := [(4, .int (nI (3 * (3 ^ kv)))), (3, .int 0), (6, .int (nI (pn / 3 ^ kv % 3))), (0, .ref (ad 20)), (1, .int (nI pn)), (2, .int (mo_out nn mo one any pn)), (5, .int (nI kv))]) hx hb d_M_isCandidate_73 hl (by decide) rfl (fun ls hl => ?_)
              refine lv_iinc (v := nI (kv + 1)) (lv' := [(5, .int (nI (kv + 1))), (4, .int (nI (3 * (3 ^ kv)))), (3, .int 0), (6, .int (nI (pn / 3 ^ kv % 3))), (0, .ref (ad 20)), (1, .int (nI pn)), (2, .int (mo_out nn mo one any pn))]) hx hb d_M_isCandidate_75 hl (k := 6) rfl (k_inc _) (by decide) rfl (fun ls hl => ?_)
              refine lv_goto (tgt := 22) hx hb d_M_isCandidate_78 (by decide) ?_
              refine ihkv _ (by omega) ?_
              have e_5 : (if (fo (mo_caf nn mo one any pn) (kv + 1) (!decide (mo_out nn mo one any pn = 0))) = true then (1 : Int32) else 0) = 0 := by rw [fo_s, mo_caf_s, c_40]; (try rw [decide_eq_true c_45]); (try rw [decide_eq_false c_45]); (try rw [decide_eq_true c_60]); (try rw [decide_eq_false c_60]); rfl
              have e_6 : nI (3 ^ (kv + 1)) = nI (3 * (3 ^ kv)) := by rw [Nat.pow_succ, Nat.mul_comm]
              exact ⟨by (try rw [e_5]); (try rw [e_6]); exact lv_sub hl [4, 5, 6, 2, 1, 0] rfl, trivial⟩
            · refine lv_iconst (v := 1) hx hb d_M_isCandidate_63 (by decide) ?_
              refine lv_goto (tgt := 68) hx hb d_M_isCandidate_64 (by decide) ?_
              refine lv_istore_n (lv' := [(3, .int 1), (6, .int (nI (pn / 3 ^ kv % 3))), (0, .ref (ad 20)), (1, .int (nI pn)), (2, .int (mo_out nn mo one any pn)), (4, .int (nI (3 ^ kv))), (5, .int (nI kv))]) hx hb d_M_isCandidate_68 rfl hl (by decide) rfl (fun ls hl => ?_)
              refine lv_iconst (v := 3) hx hb d_M_isCandidate_69 (by decide) ?_
              refine lv_iload hx hb d_M_isCandidate_70 (lv_at hl 5 rfl) ?_
              refine k_imul (a := 3) (b := 3 ^ kv) hx hb rfl rfl d_M_isCandidate_72 ?_
              refine lv_istore (lv' := [(4, .int (nI (3 * (3 ^ kv)))), (3, .int 1), (6, .int (nI (pn / 3 ^ kv % 3))), (0, .ref (ad 20)), (1, .int (nI pn)), (2, .int (mo_out nn mo one any pn)), (5, .int (nI kv))]) hx hb d_M_isCandidate_73 hl (by decide) rfl (fun ls hl => ?_)
              refine lv_iinc (v := nI (kv + 1)) (lv' := [(5, .int (nI (kv + 1))), (4, .int (nI (3 * (3 ^ kv)))), (3, .int 1), (6, .int (nI (pn / 3 ^ kv % 3))), (0, .ref (ad 20)), (1, .int (nI pn)), (2, .int (mo_out nn mo one any pn))]) hx hb d_M_isCandidate_75 hl (k := 6) rfl (k_inc _) (by decide) rfl (fun ls hl => ?_)
              refine lv_goto (tgt := 22) hx hb d_M_isCandidate_78 (by decide) ?_
              refine ihkv _ (by omega) ?_
              have e_7 : (if (fo (mo_caf nn mo one any pn) (kv + 1) (!decide (mo_out nn mo one any pn = 0))) = true then (1 : Int32) else 0) = 1 := by rw [fo_s, mo_caf_s, c_40]; (try rw [decide_eq_true c_45]); (try rw [decide_eq_false c_45]); (try rw [decide_eq_true c_60]); (try rw [decide_eq_false c_60]); rfl
              have e_8 : nI (3 ^ (kv + 1)) = nI (3 * (3 ^ kv)) := by rw [Nat.pow_succ, Nat.mul_comm]
              exact ⟨by (try rw [e_7]); (try rw [e_8]); exact lv_sub hl [4, 5, 6, 2, 1, 0] rfl, trivial⟩
    · have hdone : True := trivial
      have e_9 : (if (fo (mo_caf nn mo one any pn) 0 (!decide (mo_out nn mo one any pn = 0))) = true then (1 : Int32) else 0) = 0 := by rw [fo_0]; (first | rw [decide_eq_true c_7] | rw [decide_eq_false c_7] | rw [decide_eq_false (Nat.not_lt.mpr c_7)] | rw [decide_eq_false (Nat.not_le.mpr c_7)] | rw [c_7] | skip); rfl
      have e_10 : nI (3 ^ 0) = 1 := rfl
      have e_11 : nI 0 = 0 := rfl
      exact ⟨by (try rw [e_9]); (try rw [e_10]); (try rw [e_11]); exact lv_sub hl [4, 5, 3, 2, 1, 0] rfl, trivial⟩
  · refine lv_iconst (v := 1) hx hb d_M_isCandidate_10 (by decide) ?_
    refine lv_goto (tgt := 15) hx hb d_M_isCandidate_11 (by decide) ?_
    refine lv_istore_n (lv' := [(3, .int 1), (2, .int (mo_out nn mo one any pn)), (0, .ref (ad 20)), (1, .int (nI pn))]) hx hb d_M_isCandidate_15 rfl hl (by decide) rfl (fun ls hl => ?_)
    refine lv_iconst (v := 1) hx hb d_M_isCandidate_16 (by decide) ?_
    refine lv_istore (lv' := [(4, .int 1), (3, .int 1), (2, .int (mo_out nn mo one any pn)), (0, .ref (ad 20)), (1, .int (nI pn))]) hx hb d_M_isCandidate_17 hl (by decide) rfl (fun ls hl => ?_)
    refine lv_iconst (v := 0) hx hb d_M_isCandidate_19 (by decide) ?_
    refine lv_istore (lv' := [(5, .int 0), (4, .int 1), (3, .int 1), (2, .int (mo_out nn mo one any pn)), (0, .ref (ad 20)), (1, .int (nI pn))]) hx hb d_M_isCandidate_20 hl (by decide) rfl (fun ls hl => ?_)
    refine k_loopR (fun kv ls => lv_has ls 7 [(0, .ref (ad 20)), (1, .int (nI pn)), (2, .int (mo_out nn mo one any pn)), (3, .int (if (fo (mo_caf nn mo one any pn) kv (!decide (mo_out nn mo one any pn = 0))) = true then (1 : Int32) else 0)), (4, .int (nI (3 ^ kv))), (5, .int (nI kv))] ∧ True) nn ?_ 0 _ (Nat.zero_le _) ?_
    · intro kv ls hikv hI ihkv
      obtain ⟨hl, -⟩ := hI
      refine lv_iload hx hb d_M_isCandidate_22 (lv_at hl 5 rfl) ?_
      refine lv_aload_n hx hb d_M_isCandidate_24 rfl (lv_at hl 0 rfl) ?_
      refine va_get (D := (dC, dI)) (ci := 4) (v := .int (nI nn)) (C := R_M) (T := F_M) (N := 33) hx hb hts (hin_of in_M) hown hK hP 0 rfl rfl 1 (by decide) (hw_of hts mw_470) (fun _ h9 => h9) rfl d_M_isCandidate_25 ?_
      refine k_ge (a := kv) (b := nn) (tgt := 81) hx hb rfl rfl (by omega) (by omega) d_M_isCandidate_28 (by decide) (fun c_28 => ?_) (fun c_28 => ?_)
      · obtain rfl : nn = kv := by omega
        refine lv_iload_n hx hb d_M_isCandidate_81 rfl (lv_at hl 3 rfl) ?_
        exact W.zret (v := (if (fo (mo_caf nn mo one any pn) nn (!decide (mo_out nn mo one any pn = 0))) = true then (1 : Int32) else 0)) hx hb hr (nar_b _) (fun t ht hW => ⟨(if (fo (mo_caf nn mo one any pn) nn (!decide (mo_out nn mo one any pn = 0))) = true then (1 : Int32) else 0), rfl, rfl, ht⟩) (fun q h => by cases h) d_M_isCandidate_82
      · refine lv_iload_n hx hb d_M_isCandidate_31 rfl (lv_at hl 1 rfl) ?_
        refine lv_iload hx hb d_M_isCandidate_32 (lv_at hl 5 rfl) ?_
        have hPc := hP.sub (ws' := []) [] rfl
        have hKc := hK.sub (tys' := []) [] rfl
        refine vp_callSi (W.runS (As := [.int (nI pn), .int (nI kv)]) (rest := []) ⟨hx, hb, hml, hown, hts⟩ (c_m_digit l dC dI ad ca pn kv (by omega) (by omega)) (va_cwS 2 hts (gd_S mw_617 mw_618 mw_44 mw_619) rfl rfl rfl (by decide +kernel) ⟨Nat.le_of_ble_eq_true rfl, Nat.le_of_ble_eq_true rfl⟩) (kr_S hKc hPc) rfl rfl hl.1 rfl (lv_room (Nat.le_of_ble_eq_true rfl)) d_M_isCandidate_34 ⟨Nat.zero_le _, Nat.zero_le _⟩) (fun r hq => ?_)
        subst hq
        refine lv_istore (lv' := [(6, .int (nI (pn / 3 ^ kv % 3))), (0, .ref (ad 20)), (1, .int (nI pn)), (2, .int (mo_out nn mo one any pn)), (3, .int (if (fo (mo_caf nn mo one any pn) kv (!decide (mo_out nn mo one any pn = 0))) = true then (1 : Int32) else 0)), (4, .int (nI (3 ^ kv))), (5, .int (nI kv))]) hx hb d_M_isCandidate_37 hl (by decide) rfl (fun ls hl => ?_)
        refine lv_iload_n hx hb d_M_isCandidate_39 rfl (lv_at hl 4 rfl) ?_
        refine k_beq (b := (fo (mo_caf nn mo one any pn) kv (!decide (mo_out nn mo one any pn = 0)))) (tgt := 67) hx hb d_M_isCandidate_40 (by decide) (fun c_40 => ?_) (fun c_40 => ?_)
        · refine lv_iconst (v := 0) hx hb d_M_isCandidate_67 (by decide) ?_
          refine lv_istore_n (lv' := [(3, .int 0), (6, .int (nI (pn / 3 ^ kv % 3))), (0, .ref (ad 20)), (1, .int (nI pn)), (2, .int (mo_out nn mo one any pn)), (4, .int (nI (3 ^ kv))), (5, .int (nI kv))]) hx hb d_M_isCandidate_68 rfl hl (by decide) rfl (fun ls hl => ?_)
          refine lv_iconst (v := 3) hx hb d_M_isCandidate_69 (by decide) ?_
          refine lv_iload hx hb d_M_isCandidate_70 (lv_at hl 5 rfl) ?_
          refine k_imul (a := 3) (b := 3 ^ kv) hx hb rfl rfl d_M_isCandidate_72 ?_
          refine lv_istore (lv' := [(4, .int (nI (3 * (3 ^ kv)))), (3, .int 0), (6, .int (nI (pn / 3 ^ kv % 3))), (0, .ref (ad 20)), (1, .int (nI pn)), (2, .int (mo_out nn mo one any pn)), (5, .int (nI kv))]) hx hb d_M_isCandidate_73 hl (by decide) rfl (fun ls hl => ?_)
          refine lv_iinc (v := nI (kv + 1)) (lv' := [(5, .int (nI (kv + 1))), (4, .int (nI (3 * (3 ^ kv)))), (3, .int 0), (6, .int (nI (pn / 3 ^ kv % 3))), (0, .ref (ad 20)), (1, .int (nI pn)), (2, .int (mo_out nn mo one any pn))]) hx hb d_M_isCandidate_75 hl (k := 6) rfl (k_inc _) (by decide) rfl (fun ls hl => ?_)
          refine lv_goto (tgt := 22) hx hb d_M_isCandidate_78 (by decide) ?_
          refine ihkv _ (by omega) ?_
          have e_12 : (if (fo (mo_caf nn mo one any pn) (kv + 1) (!decide (mo_out nn mo one any pn = 0))) = true then (1 : Int32) else 0) = 0 := by rw [fo_s, mo_caf_s, c_40]; (try rw [decide_eq_true c_45]); (try rw [decide_eq_false c_45]); (try rw [decide_eq_true c_60]); (try rw [decide_eq_false c_60]); rfl
          have e_13 : nI (3 ^ (kv + 1)) = nI (3 * (3 ^ kv)) := by rw [Nat.pow_succ, Nat.mul_comm]
          exact ⟨by (try rw [e_12]); (try rw [e_13]); exact lv_sub hl [4, 5, 6, 2, 1, 0] rfl, trivial⟩
        · refine lv_iload hx hb d_M_isCandidate_43 (lv_at hl 0 rfl) ?_
          refine k_zeq (a := pn / 3 ^ kv % 3) (tgt := 63) hx hb rfl (by omega) d_M_isCandidate_45 (by decide) (fun c_45 => ?_) (fun c_45 => ?_)
          · refine lv_iconst (v := 1) hx hb d_M_isCandidate_63 (by decide) ?_
            refine lv_goto (tgt := 68) hx hb d_M_isCandidate_64 (by decide) ?_
            refine lv_istore_n (lv' := [(3, .int 1), (6, .int (nI (pn / 3 ^ kv % 3))), (0, .ref (ad 20)), (1, .int (nI pn)), (2, .int (mo_out nn mo one any pn)), (4, .int (nI (3 ^ kv))), (5, .int (nI kv))]) hx hb d_M_isCandidate_68 rfl hl (by decide) rfl (fun ls hl => ?_)
            refine lv_iconst (v := 3) hx hb d_M_isCandidate_69 (by decide) ?_
            refine lv_iload hx hb d_M_isCandidate_70 (lv_at hl 5 rfl) ?_
            refine k_imul (a := 3) (b := 3 ^ kv) hx hb rfl rfl d_M_isCandidate_72 ?_
            refine lv_istore (lv' := [(4, .int (nI (3 * (3 ^ kv)))), (3, .int 1), (6, .int (nI (pn / 3 ^ kv % 3))), (0, .ref (ad 20)), (1, .int (nI pn)), (2, .int (mo_out nn mo one any pn)), (5, .int (nI kv))]) hx hb d_M_isCandidate_73 hl (by decide) rfl (fun ls hl => ?_)
            refine lv_iinc (v := nI (kv + 1)) (lv' := [(5, .int (nI (kv + 1))), (4, .int (nI (3 * (3 ^ kv)))), (3, .int 1), (6, .int (nI (pn / 3 ^ kv % 3))), (0, .ref (ad 20)), (1, .int (nI pn)), (2, .int (mo_out nn mo one any pn))]) hx hb d_M_isCandidate_75 hl (k := 6) rfl (k_inc _) (by decide) rfl (fun ls hl => ?_)
            refine lv_goto (tgt := 22) hx hb d_M_isCandidate_78 (by decide) ?_
            refine ihkv _ (by omega) ?_
            have e_14 : (if (fo (mo_caf nn mo one any pn) (kv + 1) (!decide (mo_out nn mo one any pn = 0))) = true then (1 : Int32) else 0) = 1 := by rw [fo_s, mo_caf_s, c_40]; (try rw [decide_eq_true c_45]); (try rw [decide_eq_false c_45]); (try rw [decide_eq_true c_60]); (try rw [decide_eq_false c_60]); rfl
            have e_15 : nI (3 ^ (kv + 1)) = nI (3 * (3 ^ kv)) := by rw [Nat.pow_succ, Nat.mul_comm]
            exact ⟨by (try rw [e_14]); (try rw [e_15]); exact lv_sub hl [4, 5, 6, 2, 1, 0] rfl, trivial⟩
          · refine lv_aload_n hx hb d_M_isCandidate_48 rfl (lv_at hl 1 rfl) ?_
            refine lv_iload_n hx hb d_M_isCandidate_49 rfl (lv_at hl 2 rfl) ?_
            refine lv_iload hx hb d_M_isCandidate_50 (lv_at hl 0 rfl) ?_
            refine lv_iload hx hb d_M_isCandidate_52 (lv_at hl 5 rfl) ?_
            refine k_imul (a := pn / 3 ^ kv % 3) (b := 3 ^ kv) hx hb rfl rfl d_M_isCandidate_54 ?_
            refine k_isub (a := pn) (b := (pn / 3 ^ kv % 3) * (3 ^ kv)) hx hb rfl rfl (dig_le pn kv) d_M_isCandidate_55 ?_
            have hPc := hP.sub (ws' := [(ad 20, eM ad thr (nI nn) (nI mo) man kno cho kep dep cam csz clo chi), (ad 21, eI 2 (ca 21) one), (ad 22, eI 2 (ca 22) any)]) [0, 1, 2] rfl
            have hKc := hK.sub (tys' := [(ca 21, .int), (ca 22, .int)]) [0, 1] rfl
            refine vp_callSi (W.runV (As := [.int (nI (pn - ((pn / 3 ^ kv % 3) * (3 ^ kv))))]) (rest := []) ⟨hx, hb, hml, hown, hts⟩ (c_m_outputsOf l dC dI ad ca thr nn mo man kno cho kep dep cam csz clo chi one any (pn - ((pn / 3 ^ kv % 3) * (3 ^ kv))) (Nat.lt_of_le_of_lt (Nat.sub_le _ _) hpn) (by omega) (by omega)) (cwV 1 hts (gd_V mw_609 mw_611 mw_26 mw_44 mw_612) rfl rfl rfl (by decide +kernel) ⟨Nat.le_of_ble_eq_true rfl, Nat.le_of_ble_eq_true rfl⟩) (kr_V (q0 := 0) (ci := 4) hKc hPc rfl rfl) rfl rfl hl.1 rfl (lv_room (Nat.le_of_ble_eq_true rfl)) d_M_isCandidate_56 ⟨Nat.zero_le _, Nat.zero_le _⟩) (fun r hq => ?_)
            subst hq
            refine lv_iload_n hx hb d_M_isCandidate_59 rfl (lv_at hl 3 rfl) ?_
            refine lv_icmp_eq (tgt := 67) hx hb d_M_isCandidate_60 (by decide) (fun c_60 => ?_) (fun c_60 => ?_)
            · refine lv_iconst (v := 0) hx hb d_M_isCandidate_67 (by decide) ?_
              refine lv_istore_n (lv' := [(3, .int 0), (6, .int (nI (pn / 3 ^ kv % 3))), (0, .ref (ad 20)), (1, .int (nI pn)), (2, .int (mo_out nn mo one any pn)), (4, .int (nI (3 ^ kv))), (5, .int (nI kv))]) hx hb d_M_isCandidate_68 rfl hl (by decide) rfl (fun ls hl => ?_)
              refine lv_iconst (v := 3) hx hb d_M_isCandidate_69 (by decide) ?_
              refine lv_iload hx hb d_M_isCandidate_70 (lv_at hl 5 rfl) ?_
              refine k_imul (a := 3) (b := 3 ^ kv) hx hb rfl rfl d_M_isCandidate_72 ?_
              refine lv_istore (lv' := [(4, .int (nI (3 * (3 ^ kv)))), (3, .int 0), (6, .int (nI (pn / 3 ^ kv % 3))), (0, .ref (ad 20)), (1, .int (nI pn)), (2, .int (mo_out nn mo one any pn)), (5, .int (nI kv))]) hx hb d_M_isCandidate_73 hl (by decide) rfl (fun ls hl => ?_)
              refine lv_iinc (v := nI (kv + 1)) (lv' := [(5, .int (nI (kv + 1))), (4, .int (nI (3 * (3 ^ kv)))), (3, .int 0), (6, .int (nI (pn / 3 ^ kv % 3))), (0, .ref (ad 20)), (1, .int (nI pn)), (2, .int (mo_out nn mo one any pn))]) hx hb d_M_isCandidate_75 hl (k := 6) rfl (k_inc _) (by decide) rfl (fun ls hl => ?_)
              refine lv_goto (tgt := 22) hx hb d_M_isCandidate_78 (by decide) ?_
              refine ihkv _ (by omega) ?_
              have e_16 : (if (fo (mo_caf nn mo one any pn) (kv + 1) (!decide (mo_out nn mo one any pn = 0))) = true then (1 : Int32) else 0) = 0 := by rw [fo_s, mo_caf_s, c_40]; (try rw [decide_eq_true c_45]); (try rw [decide_eq_false c_45]); (try rw [decide_eq_true c_60]); (try rw [decide_eq_false c_60]); rfl
              have e_17 : nI (3 ^ (kv + 1)) = nI (3 * (3 ^ kv)) := by rw [Nat.pow_succ, Nat.mul_comm]
              exact ⟨by (try rw [e_16]); (try rw [e_17]); exact lv_sub hl [4, 5, 6, 2, 1, 0] rfl, trivial⟩
            · refine lv_iconst (v := 1) hx hb d_M_isCandidate_63 (by decide) ?_
              refine lv_goto (tgt := 68) hx hb d_M_isCandidate_64 (by decide) ?_
              refine lv_istore_n (lv' := [(3, .int 1), (6, .int (nI (pn / 3 ^ kv % 3))), (0, .ref (ad 20)), (1, .int (nI pn)), (2, .int (mo_out nn mo one any pn)), (4, .int (nI (3 ^ kv))), (5, .int (nI kv))]) hx hb d_M_isCandidate_68 rfl hl (by decide) rfl (fun ls hl => ?_)
              refine lv_iconst (v := 3) hx hb d_M_isCandidate_69 (by decide) ?_
              refine lv_iload hx hb d_M_isCandidate_70 (lv_at hl 5 rfl) ?_
              refine k_imul (a := 3) (b := 3 ^ kv) hx hb rfl rfl d_M_isCandidate_72 ?_
              refine lv_istore (lv' := [(4, .int (nI (3 * (3 ^ kv)))), (3, .int 1), (6, .int (nI (pn / 3 ^ kv % 3))), (0, .ref (ad 20)), (1, .int (nI pn)), (2, .int (mo_out nn mo one any pn)), (5, .int (nI kv))]) hx hb d_M_isCandidate_73 hl (by decide) rfl (fun ls hl => ?_)
              refine lv_iinc (v := nI (kv + 1)) (lv' := [(5, .int (nI (kv + 1))), (4, .int (nI (3 * (3 ^ kv)))), (3, .int 1), (6, .int (nI (pn / 3 ^ kv % 3))), (0, .ref (ad 20)), (1, .int (nI pn)), (2, .int (mo_out nn mo one any pn))]) hx hb d_M_isCandidate_75 hl (k := 6) rfl (k_inc _) (by decide) rfl (fun ls hl => ?_)
              refine lv_goto (tgt := 22) hx hb d_M_isCandidate_78 (by decide) ?_
              refine ihkv _ (by omega) ?_
              have e_18 : (if (fo (mo_caf nn mo one any pn) (kv + 1) (!decide (mo_out nn mo one any pn = 0))) = true then (1 : Int32) else 0) = 1 := by rw [fo_s, mo_caf_s, c_40]; (try rw [decide_eq_true c_45]); (try rw [decide_eq_false c_45]); (try rw [decide_eq_true c_60]); (try rw [decide_eq_false c_60]); rfl
              have e_19 : nI (3 ^ (kv + 1)) = nI (3 * (3 ^ kv)) := by rw [Nat.pow_succ, Nat.mul_comm]
              exact ⟨by (try rw [e_18]); (try rw [e_19]); exact lv_sub hl [4, 5, 6, 2, 1, 0] rfl, trivial⟩
    · have hdone : True := trivial
      have e_20 : (if (fo (mo_caf nn mo one any pn) 0 (!decide (mo_out nn mo one any pn = 0))) = true then (1 : Int32) else 0) = 1 := by rw [fo_0]; (first | rw [decide_eq_true c_7] | rw [decide_eq_false c_7] | rw [decide_eq_false (Nat.not_lt.mpr c_7)] | rw [decide_eq_false (Nat.not_le.mpr c_7)] | rw [c_7] | skip); rfl
      have e_21 : nI (3 ^ 0) = 1 := rfl
      have e_22 : nI 0 = 0 := rfl
      exact ⟨by (try rw [e_20]); (try rw [e_21]); (try rw [e_22]); exact lv_sub hl [4, 5, 3, 2, 1, 0] rfl, trivial⟩
set_option maxHeartbeats 4000000 in
set_option maxRecDepth 100000 in
theorem c_m_partsOf (l : Launch) (dC : Nat → ClassId) (dI : Nat → Nat → Nat) (ad : Nat → Nat) (ca : Nat → ClassId) (thr : Int32) (nn : Nat) (oun : Int32) (man : Int32) (kno : Int32) (cho : Int32) (kep : Int32) (dep : Int32) (cam : Int32) (csz : Int32) (clo : Int64) (chi : Int64) (pn : Nat) (hpn : pn < 81) (hn4 : nn ≤ 4) : Met l y_M_partsOf w_M_partsOf ({ frames := 1, cells := 0, slots := 0, locals := 23 }) (kr_P [.ref (ad 20), .int (nI pn)] (dC, dI) vC [(ad 20, eM ad thr (nI nn) oun man kno cho kep dep cam csz clo chi)] []) (vp_Si (fun r => r = nI (mo_pa nn pn))) 0 0 (fun _ => False) := by
  refine Met.ofW (cc := b_M_partsOf) (maxL := 4) (ret := (some .int)) (by decide) rfl ?_
  intro p e s m args below meth c s₁ B hml hv
  obtain ⟨rfl, hP, hK⟩ := hv
  have hx := B.exec
  have hb := B.bytes
  have hr := B.returns
  have hts := atoms_spec (ws := w_M_partsOf) B.pre
  have hlocks := B.notSynchronized
  have hown : s.vm.findClass R_M = some m.cls := findClass_of_methodNamed B.named
  have hl := lv_entry ([.ref (ad 20), .int (nI pn)]) (n := 4) (Nat.le_of_ble_eq_true rfl)
  rw [lg_entry_eq]
  generalize (lg_sl ([.ref (ad 20), .int (nI pn)]) ++ List.replicate (4 - (lg_sl ([.ref (ad 20), .int (nI pn)])).length) Slot.unset).toArray = ls at hl ⊢
  have hl : lv_has ls 4 [(0, .ref (ad 20)), (1, .int (nI pn))] := hl
  refine lv_iconst (v := 0) hx hb d_M_partsOf_0 (by decide) ?_
  refine lv_istore_n (lv' := [(2, .int 0), (0, .ref (ad 20)), (1, .int (nI pn))]) hx hb d_M_partsOf_1 rfl hl (by decide) rfl (fun ls hl => ?_)
  refine lv_iconst (v := 0) hx hb d_M_partsOf_2 (by decide) ?_
  refine lv_istore_n (lv' := [(3, .int 0), (2, .int 0), (0, .ref (ad 20)), (1, .int (nI pn))]) hx hb d_M_partsOf_3 rfl hl (by decide) rfl (fun ls hl => ?_)
  refine k_loopR (fun kv ls => lv_has ls 4 [(0, .ref (ad 20)), (1, .int (nI pn)), (2, .int (nI (fo (mo_paf pn) kv 0))), (3, .int (nI kv))] ∧ True) nn ?_ 0 _ (Nat.zero_le _) ?_
  · intro kv ls hikv hI ihkv
    obtain ⟨hl, -⟩ := hI
    refine lv_iload_n hx hb d_M_partsOf_4 rfl (lv_at hl 3 rfl) ?_
    refine lv_aload_n hx hb d_M_partsOf_5 rfl (lv_at hl 0 rfl) ?_
    refine va_get (D := (dC, dI)) (ci := 4) (v := .int (nI nn)) (C := R_M) (T := F_M) (N := 33) hx hb hts (hin_of in_M) hown hK hP 0 rfl rfl 1 (by decide) (hw_of hts mw_470) (fun _ h9 => h9) rfl d_M_partsOf_6 ?_
    refine k_ge (a := kv) (b := nn) (tgt := 34) hx hb rfl rfl (by omega) (by omega) d_M_partsOf_9 (by decide) (fun c_9 => ?_) (fun c_9 => ?_)
    · obtain rfl : nn = kv := by omega
      refine lv_iload_n hx hb d_M_partsOf_34 rfl (lv_at hl 2 rfl) ?_
      exact W.iret (v := nI (fo (mo_paf pn) nn 0)) hx hb hr (fun t ht hW => ⟨nI (fo (mo_paf pn) nn 0), rfl, rfl, ht⟩) (fun q h => by cases h) d_M_partsOf_35
    · refine lv_iload_n hx hb d_M_partsOf_12 rfl (lv_at hl 1 rfl) ?_
      refine lv_iload_n hx hb d_M_partsOf_13 rfl (lv_at hl 3 rfl) ?_
      have hPc := hP.sub (ws' := []) [] rfl
      have hKc := hK.sub (tys' := []) [] rfl
      refine vp_callSi (W.runS (As := [.int (nI pn), .int (nI kv)]) (rest := []) ⟨hx, hb, hml, hown, hts⟩ (c_m_digit l dC dI ad ca pn kv (by omega) (by omega)) (va_cwS 2 hts (gd_S mw_617 mw_618 mw_44 mw_619) rfl rfl rfl (by decide +kernel) ⟨Nat.le_of_ble_eq_true rfl, Nat.le_of_ble_eq_true rfl⟩) (kr_S hKc hPc) rfl rfl hl.1 rfl (lv_room (Nat.le_of_ble_eq_true rfl)) d_M_partsOf_14 ⟨Nat.zero_le _, Nat.zero_le _⟩) (fun r hq => ?_)
      subst hq
      refine k_zle (a := pn / 3 ^ kv % 3) (tgt := 26) hx hb rfl (by omega) d_M_partsOf_17 (by decide) (fun c_17 => ?_) (fun c_17 => ?_)
      · refine lv_iload_n hx hb d_M_partsOf_26 rfl (lv_at hl 2 rfl) ?_
        refine lv_istore_n (lv' := [(2, .int (nI (fo (mo_paf pn) kv 0))), (0, .ref (ad 20)), (1, .int (nI pn)), (3, .int (nI kv))]) hx hb d_M_partsOf_27 rfl hl (by decide) rfl (fun ls hl => ?_)
        refine lv_iinc (v := nI (kv + 1)) (lv' := [(3, .int (nI (kv + 1))), (2, .int (nI (fo (mo_paf pn) kv 0))), (0, .ref (ad 20)), (1, .int (nI pn))]) hx hb d_M_partsOf_28 hl (k := 3) rfl (k_inc _) (by decide) rfl (fun ls hl => ?_)
        refine lv_goto (tgt := 4) hx hb d_M_partsOf_31 (by decide) ?_
        refine ihkv _ (by omega) ?_
        have e_1 : nI (fo (mo_paf pn) (kv + 1) 0) = nI (fo (mo_paf pn) kv 0) := by rw [fo_s]; congr 1; first | exact if_pos c_17 | exact if_neg (by omega)
        exact ⟨by (try rw [e_1]); exact lv_sub hl [2, 3, 1, 0] rfl, trivial⟩
      · refine lv_iload_n hx hb d_M_partsOf_20 rfl (lv_at hl 2 rfl) ?_
        refine lv_iconst (v := 1) hx hb d_M_partsOf_21 (by decide) ?_
        refine k_iadd (a := fo (mo_paf pn) kv 0) (b := 1) hx hb rfl rfl d_M_partsOf_22 ?_
        refine lv_goto (tgt := 27) hx hb d_M_partsOf_23 (by decide) ?_
        refine lv_istore_n (lv' := [(2, .int (nI ((fo (mo_paf pn) kv 0) + 1))), (0, .ref (ad 20)), (1, .int (nI pn)), (3, .int (nI kv))]) hx hb d_M_partsOf_27 rfl hl (by decide) rfl (fun ls hl => ?_)
        refine lv_iinc (v := nI (kv + 1)) (lv' := [(3, .int (nI (kv + 1))), (2, .int (nI ((fo (mo_paf pn) kv 0) + 1))), (0, .ref (ad 20)), (1, .int (nI pn))]) hx hb d_M_partsOf_28 hl (k := 3) rfl (k_inc _) (by decide) rfl (fun ls hl => ?_)
        refine lv_goto (tgt := 4) hx hb d_M_partsOf_31 (by decide) ?_
        refine ihkv _ (by omega) ?_
        have e_2 : nI (fo (mo_paf pn) (kv + 1) 0) = nI ((fo (mo_paf pn) kv 0) + 1) := by rw [fo_s]; congr 1; first | exact if_pos c_17 | exact if_neg (by omega)
        exact ⟨by (try rw [e_2]); exact lv_sub hl [2, 3, 1, 0] rfl, trivial⟩
  · have hdone : True := trivial
    have e_3 : nI (fo (mo_paf pn) 0 0) = 0 := rfl
    have e_4 : nI 0 = 0 := rfl
    exact ⟨by (try rw [e_3]); (try rw [e_4]); exact lv_sub hl [2, 3, 1, 0] rfl, trivial⟩
set_option maxHeartbeats 4000000 in
set_option maxRecDepth 100000 in
theorem c_m_isNeeded (l : Launch) (dC : Nat → ClassId) (dI : Nat → Nat → Nat) (ad : Nat → Nat) (ca : Nat → ClassId) (thr : Int32) (inn : Int32) (oun : Int32) (mn : Nat) (kno : Int32) (cho : Int32) (kep : Int32) (dep : Int32) (cam : Int32) (csz : Int32) (clo : Int64) (chi : Int64) (cov : Nat → Int32) (kn : Nat) (hkn : kn < mn) (hmn : mn ≤ 81) : Met l y_M_isNeeded w_M_isNeeded ({ frames := 0, cells := 0, slots := 0, locals := 0 }) (kr_P [.ref (ad 20), .int (nI kn)] (dC, dI) vC [(ad 20, eM ad thr inn oun (nI mn) kno cho kep dep cam csz clo chi), (ad 27, eI 81 (ca 27) cov)] [(ca 27, .int)]) (vp_Si (fun r => r = (if (!decide (cov kn &&& ((fo (mo_nef cov kn) mn 0) ^^^ (-1)) = 0)) = true then (1 : Int32) else 0))) 0 0 (fun _ => False) := by
  refine Met.ofW (cc := b_M_isNeeded) (maxL := 4) (ret := (some .boolean)) (by decide) rfl ?_
  intro p e s m args below meth c s₁ B hml hv
  obtain ⟨rfl, hP, hK⟩ := hv
  have hx := B.exec
  have hb := B.bytes
  have hr := B.returns
  have hts := atoms_spec (ws := w_M_isNeeded) B.pre
  have hlocks := B.notSynchronized
  have hown : s.vm.findClass R_M = some m.cls := findClass_of_methodNamed B.named
  have hl := lv_entry ([.ref (ad 20), .int (nI kn)]) (n := 4) (Nat.le_of_ble_eq_true rfl)
  rw [lg_entry_eq]
  generalize (lg_sl ([.ref (ad 20), .int (nI kn)]) ++ List.replicate (4 - (lg_sl ([.ref (ad 20), .int (nI kn)])).length) Slot.unset).toArray = ls at hl ⊢
  have hl : lv_has ls 4 [(0, .ref (ad 20)), (1, .int (nI kn))] := hl
  refine lv_iconst (v := 0) hx hb d_M_isNeeded_0 (by decide) ?_
  refine lv_istore_n (lv' := [(2, .int 0), (0, .ref (ad 20)), (1, .int (nI kn))]) hx hb d_M_isNeeded_1 rfl hl (by decide) rfl (fun ls hl => ?_)
  refine lv_iconst (v := 0) hx hb d_M_isNeeded_2 (by decide) ?_
  refine lv_istore_n (lv' := [(3, .int 0), (2, .int 0), (0, .ref (ad 20)), (1, .int (nI kn))]) hx hb d_M_isNeeded_3 rfl hl (by decide) rfl (fun ls hl => ?_)
  refine k_loopR (fun jv ls => lv_has ls 4 [(0, .ref (ad 20)), (1, .int (nI kn)), (2, .int (fo (mo_nef cov kn) jv 0)), (3, .int (nI jv))] ∧ True) mn ?_ 0 _ (Nat.zero_le _) ?_
  · intro jv ls hijv hI ihjv
    obtain ⟨hl, -⟩ := hI
    refine lv_iload_n hx hb d_M_isNeeded_4 rfl (lv_at hl 3 rfl) ?_
    refine lv_aload_n hx hb d_M_isNeeded_5 rfl (lv_at hl 0 rfl) ?_
    refine va_get (D := (dC, dI)) (ci := 4) (v := .int (nI mn)) (C := R_M) (T := F_M) (N := 33) hx hb hts (hin_of in_M) hown hK hP 0 rfl rfl 5 (by decide) (hw_of hts mw_474) (fun _ h9 => h9) rfl d_M_isNeeded_6 ?_
    refine k_ge (a := jv) (b := mn) (tgt := 36) hx hb rfl rfl (by omega) (by omega) d_M_isNeeded_9 (by decide) (fun c_9 => ?_) (fun c_9 => ?_)
    · obtain rfl : mn = jv := by omega
      refine lv_aload_n hx hb d_M_isNeeded_36 rfl (lv_at hl 0 rfl) ?_
      refine va_get (D := (dC, dI)) (ci := 4) (v := .ref (ad 27)) (C := R_M) (T := F_M) (N := 33) hx hb hts (hin_of in_M) hown hK hP 0 rfl rfl 10 (by decide) (hw_of hts mw_479) (fun _ h9 => h9) rfl d_M_isNeeded_37 ?_
      refine lv_iload_n hx hb d_M_isNeeded_40 rfl (lv_at hl 1 rfl) ?_
      refine k_iald (k := kn) hx hb hK hP 1 0 rfl rfl rfl (by omega) (by decide) d_M_isNeeded_41 ?_
      refine lv_iload_n hx hb d_M_isNeeded_42 rfl (lv_at hl 2 rfl) ?_
      refine lv_iconst (v := (-1)) hx hb d_M_isNeeded_43 (by decide) ?_
      refine lv_ixor hx hb d_M_isNeeded_44 ?_
      refine lv_iand hx hb d_M_isNeeded_45 ?_
      refine lv_if_eq (tgt := 53) hx hb d_M_isNeeded_46 (by decide) (fun c_46 => ?_) (fun c_46 => ?_)
      · refine lv_iconst (v := 0) hx hb d_M_isNeeded_53 (by decide) ?_
        exact W.zret (v := 0) hx hb hr rfl (fun t ht hW => ⟨0, rfl, by (first | rw [decide_eq_true c_9] | rw [decide_eq_false c_9] | rw [decide_eq_false (Nat.not_lt.mpr c_9)] | rw [decide_eq_false (Nat.not_le.mpr c_9)] | rw [c_9] | skip); (first | rw [decide_eq_true c_46] | rw [decide_eq_false c_46] | rw [decide_eq_false (Nat.not_lt.mpr c_46)] | rw [decide_eq_false (Nat.not_le.mpr c_46)] | rw [c_46] | skip); rfl, ht⟩) (fun q h => by cases h) d_M_isNeeded_54
      · refine lv_iconst (v := 1) hx hb d_M_isNeeded_49 (by decide) ?_
        refine lv_goto (tgt := 54) hx hb d_M_isNeeded_50 (by decide) ?_
        exact W.zret (v := 1) hx hb hr rfl (fun t ht hW => ⟨1, rfl, by (first | rw [decide_eq_true c_9] | rw [decide_eq_false c_9] | rw [decide_eq_false (Nat.not_lt.mpr c_9)] | rw [decide_eq_false (Nat.not_le.mpr c_9)] | rw [c_9] | skip); (first | rw [decide_eq_true c_46] | rw [decide_eq_false c_46] | rw [decide_eq_false (Nat.not_lt.mpr c_46)] | rw [decide_eq_false (Nat.not_le.mpr c_46)] | rw [c_46] | skip); rfl, ht⟩) (fun q h => by cases h) d_M_isNeeded_54
    · refine lv_iload_n hx hb d_M_isNeeded_12 rfl (lv_at hl 3 rfl) ?_
      refine lv_iload_n hx hb d_M_isNeeded_13 rfl (lv_at hl 1 rfl) ?_
      refine k_ne (a := jv) (b := kn) (tgt := 21) hx hb rfl rfl (by omega) (by omega) d_M_isNeeded_14 (by decide) (fun c_14 => ?_) (fun c_14 => ?_)
      · refine lv_iload_n hx hb d_M_isNeeded_21 rfl (lv_at hl 2 rfl) ?_
        refine lv_aload_n hx hb d_M_isNeeded_22 rfl (lv_at hl 0 rfl) ?_
        refine va_get (D := (dC, dI)) (ci := 4) (v := .ref (ad 27)) (C := R_M) (T := F_M) (N := 33) hx hb hts (hin_of in_M) hown hK hP 0 rfl rfl 10 (by decide) (hw_of hts mw_479) (fun _ h9 => h9) rfl d_M_isNeeded_23 ?_
        refine lv_iload_n hx hb d_M_isNeeded_26 rfl (lv_at hl 3 rfl) ?_
        refine k_iald (k := jv) hx hb hK hP 1 0 rfl rfl rfl (by omega) (by decide) d_M_isNeeded_27 ?_
        refine lv_ior hx hb d_M_isNeeded_28 ?_
        refine lv_istore_n (lv' := [(2, .int ((fo (mo_nef cov kn) jv 0) ||| (cov jv))), (0, .ref (ad 20)), (1, .int (nI kn)), (3, .int (nI jv))]) hx hb d_M_isNeeded_29 rfl hl (by decide) rfl (fun ls hl => ?_)
        refine lv_iinc (v := nI (jv + 1)) (lv' := [(3, .int (nI (jv + 1))), (2, .int ((fo (mo_nef cov kn) jv 0) ||| (cov jv))), (0, .ref (ad 20)), (1, .int (nI kn))]) hx hb d_M_isNeeded_30 hl (k := 3) rfl (k_inc _) (by decide) rfl (fun ls hl => ?_)
        refine lv_goto (tgt := 4) hx hb d_M_isNeeded_33 (by decide) ?_
        refine ihjv _ (by omega) ?_
        have e_1 : fo (mo_nef cov kn) (jv + 1) 0 = (fo (mo_nef cov kn) jv 0) ||| (cov jv) := by rw [fo_s]; (first | rfl | exact if_pos c_9 | exact if_neg c_9 | exact if_neg (by rw [c_9]; decide) | exact if_pos c_14 | exact if_neg c_14 | exact if_neg (by rw [c_14]; decide) | exact (if_neg c_9).trans (if_pos c_14) | exact (if_neg c_9).trans (if_neg c_14) | exact (if_neg c_9).trans (if_neg (by rw [c_14]; decide)) | exact (if_neg (by rw [c_9]; decide)).trans (if_pos c_14) | exact (if_neg (by rw [c_9]; decide)).trans (if_neg c_14) | exact (if_neg (by rw [c_9]; decide)).trans (if_neg (by rw [c_14]; decide)) | exact (if_neg c_14).trans (if_pos c_9) | exact (if_neg c_14).trans (if_neg c_9) | exact (if_neg c_14).trans (if_neg (by rw [c_9]; decide)) | exact (if_neg (by rw [c_14]; decide)).trans (if_pos c_9) | exact (if_neg (by rw [c_14]; decide)).trans (if_neg c_9) | exact (if_neg (by rw [c_14]; decide)).trans (if_neg (by rw [c_9]; decide)))
        exact ⟨by (try rw [e_1]); exact lv_sub hl [2, 3, 1, 0] rfl, trivial⟩
      · refine lv_iload_n hx hb d_M_isNeeded_17 rfl (lv_at hl 2 rfl) ?_
        refine lv_goto (tgt := 29) hx hb d_M_isNeeded_18 (by decide) ?_
        refine lv_istore_n (lv' := [(2, .int (fo (mo_nef cov kn) jv 0)), (0, .ref (ad 20)), (1, .int (nI kn)), (3, .int (nI jv))]) hx hb d_M_isNeeded_29 rfl hl (by decide) rfl (fun ls hl => ?_)
        refine lv_iinc (v := nI (jv + 1)) (lv' := [(3, .int (nI (jv + 1))), (2, .int (fo (mo_nef cov kn) jv 0)), (0, .ref (ad 20)), (1, .int (nI kn))]) hx hb d_M_isNeeded_30 hl (k := 3) rfl (k_inc _) (by decide) rfl (fun ls hl => ?_)
        refine lv_goto (tgt := 4) hx hb d_M_isNeeded_33 (by decide) ?_
        refine ihjv _ (by omega) ?_
        have e_2 : fo (mo_nef cov kn) (jv + 1) 0 = fo (mo_nef cov kn) jv 0 := by rw [fo_s]; (first | rfl | exact if_pos c_9 | exact if_neg c_9 | exact if_neg (by rw [c_9]; decide) | exact if_pos c_14 | exact if_neg c_14 | exact if_neg (by rw [c_14]; decide) | exact (if_neg c_9).trans (if_pos c_14) | exact (if_neg c_9).trans (if_neg c_14) | exact (if_neg c_9).trans (if_neg (by rw [c_14]; decide)) | exact (if_neg (by rw [c_9]; decide)).trans (if_pos c_14) | exact (if_neg (by rw [c_9]; decide)).trans (if_neg c_14) | exact (if_neg (by rw [c_9]; decide)).trans (if_neg (by rw [c_14]; decide)) | exact (if_neg c_14).trans (if_pos c_9) | exact (if_neg c_14).trans (if_neg c_9) | exact (if_neg c_14).trans (if_neg (by rw [c_9]; decide)) | exact (if_neg (by rw [c_14]; decide)).trans (if_pos c_9) | exact (if_neg (by rw [c_14]; decide)).trans (if_neg c_9) | exact (if_neg (by rw [c_14]; decide)).trans (if_neg (by rw [c_9]; decide)))
        exact ⟨by (try rw [e_2]); exact lv_sub hl [2, 3, 1, 0] rfl, trivial⟩
  · have hdone : True := trivial
    have e_3 : fo (mo_nef cov kn) 0 0 = 0 := rfl
    have e_4 : nI 0 = 0 := rfl
    exact ⟨by (try rw [e_3]); (try rw [e_4]); exact lv_sub hl [2, 3, 1, 0] rfl, trivial⟩
