set_option maxHeartbeats 4000000 in
set_option maxRecDepth 100000 in
theorem c_m_onesOf (l : Launch) (dC : Nat → ClassId) (dI : Nat → Nat → Nat) (ad : Nat → Nat) (ca : Nat → ClassId) (thr : Int32) (nn : Nat) (oun : Int32) (man : Int32) (kno : Int32) (cho : Int32) (kep : Int32) (dep : Int32) (cam : Int32) (csz : Int32) (clo : Int64) (chi : Int64) (pn : Nat) (hpn : pn < 81) (hn4 : nn ≤ 4) : Met l y_M_onesOf w_M_onesOf ({ frames := 1, cells := 0, slots := 0, locals := 23 }) (kr_P [.ref (ad 20), .int (nI pn)] (dC, dI) vC [(ad 20, eM ad thr (nI nn) oun man kno cho kep dep cam csz clo chi)] []) (vp_Si (fun r => r = mo_on nn pn)) 0 0 (fun _ => False) := by
  refine Met.ofW (cc := b_M_onesOf) (maxL := 7) (ret := (some .int)) (by decide) rfl ?_
  intro p e s m args below meth c s₁ B hml hv
  obtain ⟨rfl, hP, hK⟩ := hv
  have hx := B.exec
  have hb := B.bytes
  have hr := B.returns
  have hts := atoms_spec (ws := w_M_onesOf) B.pre
  have hlocks := B.notSynchronized
  have hown : s.vm.findClass R_M = some m.cls := findClass_of_methodNamed B.named
  have hl := lv_entry ([.ref (ad 20), .int (nI pn)]) (n := 7) (Nat.le_of_ble_eq_true rfl)
  rw [lg_entry_eq]
  generalize (lg_sl ([.ref (ad 20), .int (nI pn)]) ++ List.replicate (7 - (lg_sl ([.ref (ad 20), .int (nI pn)])).length) Slot.unset).toArray = ls at hl ⊢
  have hl : lv_has ls 7 [(0, .ref (ad 20)), (1, .int (nI pn))] := hl
  have h16 := p2_16 hn4
  refine lv_iconst (v := 0) hx hb d_M_onesOf_0 (by decide) ?_
  refine lv_istore_n (lv' := [(2, .int 0), (0, .ref (ad 20)), (1, .int (nI pn))]) hx hb d_M_onesOf_1 rfl hl (by decide) rfl (fun ls hl => ?_)
  refine lv_iconst (v := 0) hx hb d_M_onesOf_2 (by decide) ?_
  refine lv_istore_n (lv' := [(3, .int 0), (2, .int 0), (0, .ref (ad 20)), (1, .int (nI pn))]) hx hb d_M_onesOf_3 rfl hl (by decide) rfl (fun ls hl => ?_)
  refine k_loopR (fun vv ls => lv_has ls 7 [(0, .ref (ad 20)), (1, .int (nI pn)), (2, .int (fo (mo_onf pn nn) vv 0)), (3, .int (nI vv))] ∧ True) (2 ^ nn) ?_ 0 _ (Nat.zero_le _) ?_
  · intro vv ls hivv hI ihvv
    obtain ⟨hl, -⟩ := hI
    refine lv_iload_n hx hb d_M_onesOf_4 rfl (lv_at hl 3 rfl) ?_
    refine lv_iconst (v := 1) hx hb d_M_onesOf_5 (by decide) ?_
    refine lv_aload_n hx hb d_M_onesOf_6 rfl (lv_at hl 0 rfl) ?_
    refine va_get (D := (dC, dI)) (ci := 4) (v := .int (nI nn)) (C := R_M) (T := F_M) (N := 33) hx hb hts (hin_of in_M) hown hK hP 0 rfl rfl 1 (by decide) (hw_of hts mw_470) (fun _ h9 => h9) rfl d_M_onesOf_7 ?_
    refine lv_ishl hx hb d_M_onesOf_10 ?_
    rw [sh_one hn4]
    refine k_ge (a := vv) (b := 2 ^ nn) (tgt := 110) hx hb rfl rfl (by omega) (by omega) d_M_onesOf_11 (by decide) (fun c_11 => ?_) (fun c_11 => ?_)
    · obtain rfl : 2 ^ nn = vv := by omega
      refine lv_iload_n hx hb d_M_onesOf_110 rfl (lv_at hl 2 rfl) ?_
      exact W.iret (v := fo (mo_onf pn nn) (2 ^ nn) 0) hx hb hr (fun t ht hW => ⟨fo (mo_onf pn nn) (2 ^ nn) 0, rfl, rfl, ht⟩) (fun q h => by cases h) d_M_onesOf_111
    · refine lv_iconst (v := 1) hx hb d_M_onesOf_14 (by decide) ?_
      refine lv_istore (lv' := [(4, .int 1), (0, .ref (ad 20)), (1, .int (nI pn)), (2, .int (fo (mo_onf pn nn) vv 0)), (3, .int (nI vv))]) hx hb d_M_onesOf_15 hl (by decide) rfl (fun ls hl => ?_)
      refine lv_iconst (v := 0) hx hb d_M_onesOf_17 (by decide) ?_
      refine lv_istore (lv' := [(5, .int 0), (4, .int 1), (0, .ref (ad 20)), (1, .int (nI pn)), (2, .int (fo (mo_onf pn nn) vv 0)), (3, .int (nI vv))]) hx hb d_M_onesOf_18 hl (by decide) rfl (fun ls hl => ?_)
      refine k_loopR (fun kv ls => lv_has ls 7 [(0, .ref (ad 20)), (1, .int (nI pn)), (2, .int (fo (mo_onf pn nn) vv 0)), (3, .int (nI vv)), (4, .int (if (fo (mo_isf pn vv) kv true) = true then (1 : Int32) else 0)), (5, .int (nI kv))] ∧ True) nn ?_ 0 _ (Nat.zero_le _) ?_
      · intro kv ls hikv hI ihkv
        obtain ⟨hl, -⟩ := hI
        refine lv_iload hx hb d_M_onesOf_20 (lv_at hl 5 rfl) ?_
        refine lv_aload_n hx hb d_M_onesOf_22 rfl (lv_at hl 0 rfl) ?_
        refine va_get (D := (dC, dI)) (ci := 4) (v := .int (nI nn)) (C := R_M) (T := F_M) (N := 33) hx hb hts (hin_of in_M) hown hK hP 0 rfl rfl 1 (by decide) (hw_of hts mw_470) (fun _ h9 => h9) rfl d_M_onesOf_23 ?_
        refine k_ge (a := kv) (b := nn) (tgt := 89) hx hb rfl rfl (by omega) (by omega) d_M_onesOf_26 (by decide) (fun c_26 => ?_) (fun c_26 => ?_)
        · obtain rfl : nn = kv := by omega
          refine lv_iload hx hb d_M_onesOf_89 (lv_at hl 4 rfl) ?_
          refine k_beq (b := (fo (mo_isf pn vv) nn true)) (tgt := 102) hx hb d_M_onesOf_91 (by decide) (fun c_91 => ?_) (fun c_91 => ?_)
          · refine lv_iload_n hx hb d_M_onesOf_102 rfl (lv_at hl 2 rfl) ?_
            refine lv_istore_n (lv' := [(2, .int (fo (mo_onf pn nn) vv 0)), (0, .ref (ad 20)), (1, .int (nI pn)), (3, .int (nI vv)), (4, .int (if (fo (mo_isf pn vv) nn true) = true then (1 : Int32) else 0)), (5, .int (nI nn))]) hx hb d_M_onesOf_103 rfl hl (by decide) rfl (fun ls hl => ?_)
            refine lv_iinc (v := nI (vv + 1)) (lv' := [(3, .int (nI (vv + 1))), (2, .int (fo (mo_onf pn nn) vv 0)), (0, .ref (ad 20)), (1, .int (nI pn)), (4, .int (if (fo (mo_isf pn vv) nn true) = true then (1 : Int32) else 0)), (5, .int (nI nn))]) hx hb d_M_onesOf_104 hl (k := 3) rfl (k_inc _) (by decide) rfl (fun ls hl => ?_)
            refine lv_goto (tgt := 4) hx hb d_M_onesOf_107 (by decide) ?_
            refine ihvv _ (by omega) ?_
            have e_1 : fo (mo_onf pn nn) (vv + 1) 0 = fo (mo_onf pn nn) vv 0 := by rw [fo_s]; first | rw [mo_onf_t c_91] | rw [mo_onf_f c_91]
            exact ⟨by (try rw [e_1]); exact lv_sub hl [2, 3, 1, 0] rfl, trivial⟩
          · refine lv_iload_n hx hb d_M_onesOf_94 rfl (lv_at hl 2 rfl) ?_
            refine lv_iconst (v := 1) hx hb d_M_onesOf_95 (by decide) ?_
            refine lv_iload_n hx hb d_M_onesOf_96 rfl (lv_at hl 3 rfl) ?_
            refine lv_ishl hx hb d_M_onesOf_97 ?_
            refine lv_ior hx hb d_M_onesOf_98 ?_
            refine lv_goto (tgt := 103) hx hb d_M_onesOf_99 (by decide) ?_
            refine lv_istore_n (lv' := [(2, .int ((fo (mo_onf pn nn) vv 0) ||| ((1 : Int32) <<< ((nI vv) &&& 31)))), (0, .ref (ad 20)), (1, .int (nI pn)), (3, .int (nI vv)), (4, .int (if (fo (mo_isf pn vv) nn true) = true then (1 : Int32) else 0)), (5, .int (nI nn))]) hx hb d_M_onesOf_103 rfl hl (by decide) rfl (fun ls hl => ?_)
            refine lv_iinc (v := nI (vv + 1)) (lv' := [(3, .int (nI (vv + 1))), (2, .int ((fo (mo_onf pn nn) vv 0) ||| ((1 : Int32) <<< ((nI vv) &&& 31)))), (0, .ref (ad 20)), (1, .int (nI pn)), (4, .int (if (fo (mo_isf pn vv) nn true) = true then (1 : Int32) else 0)), (5, .int (nI nn))]) hx hb d_M_onesOf_104 hl (k := 3) rfl (k_inc _) (by decide) rfl (fun ls hl => ?_)
            refine lv_goto (tgt := 4) hx hb d_M_onesOf_107 (by decide) ?_
            refine ihvv _ (by omega) ?_
            have e_2 : fo (mo_onf pn nn) (vv + 1) 0 = (fo (mo_onf pn nn) vv 0) ||| ((1 : Int32) <<< ((nI vv) &&& 31)) := by rw [fo_s]; first | rw [mo_onf_t c_91] | rw [mo_onf_f c_91]
            exact ⟨by (try rw [e_2]); exact lv_sub hl [2, 3, 1, 0] rfl, trivial⟩
        · refine lv_iload_n hx hb d_M_onesOf_29 rfl (lv_at hl 1 rfl) ?_
          refine lv_iload hx hb d_M_onesOf_30 (lv_at hl 5 rfl) ?_
          have hPc := hP.sub (ws' := []) [] rfl
          have hKc := hK.sub (tys' := []) [] rfl
          refine vp_callSi (W.runS (As := [.int (nI pn), .int (nI kv)]) (rest := []) ⟨hx, hb, hml, hown, hts⟩ (c_m_digit l dC dI ad ca pn kv (by omega) (by omega)) (va_cwS 2 hts (gd_S mw_617 mw_618 mw_44 mw_619) rfl rfl rfl (by decide +kernel) ⟨Nat.le_of_ble_eq_true rfl, Nat.le_of_ble_eq_true rfl⟩) (kr_S hKc hPc) rfl rfl hl.1 rfl (lv_room (Nat.le_of_ble_eq_true rfl)) d_M_onesOf_32 ⟨Nat.zero_le _, Nat.zero_le _⟩) (fun r hq => ?_)
          subst hq
          refine lv_istore (lv' := [(6, .int (nI (pn / 3 ^ kv % 3))), (0, .ref (ad 20)), (1, .int (nI pn)), (2, .int (fo (mo_onf pn nn) vv 0)), (3, .int (nI vv)), (4, .int (if (fo (mo_isf pn vv) kv true) = true then (1 : Int32) else 0)), (5, .int (nI kv))]) hx hb d_M_onesOf_35 hl (by decide) rfl (fun ls hl => ?_)
          refine lv_iload hx hb d_M_onesOf_37 (lv_at hl 5 rfl) ?_
          refine k_beq (b := (fo (mo_isf pn vv) kv true)) (tgt := 80) hx hb d_M_onesOf_39 (by decide) (fun c_39 => ?_) (fun c_39 => ?_)
          · refine lv_iconst (v := 0) hx hb d_M_onesOf_80 (by decide) ?_
            refine lv_istore (lv' := [(4, .int 0), (6, .int (nI (pn / 3 ^ kv % 3))), (0, .ref (ad 20)), (1, .int (nI pn)), (2, .int (fo (mo_onf pn nn) vv 0)), (3, .int (nI vv)), (5, .int (nI kv))]) hx hb d_M_onesOf_81 hl (by decide) rfl (fun ls hl => ?_)
            refine lv_iinc (v := nI (kv + 1)) (lv' := [(5, .int (nI (kv + 1))), (4, .int 0), (6, .int (nI (pn / 3 ^ kv % 3))), (0, .ref (ad 20)), (1, .int (nI pn)), (2, .int (fo (mo_onf pn nn) vv 0)), (3, .int (nI vv))]) hx hb d_M_onesOf_83 hl (k := 6) rfl (k_inc _) (by decide) rfl (fun ls hl => ?_)
            refine lv_goto (tgt := 20) hx hb d_M_onesOf_86 (by decide) ?_
            refine ihkv _ (by omega) ?_
            have e_3 : (if (fo (mo_isf pn vv) (kv + 1) true) = true then (1 : Int32) else 0) = 0 := by rw [fo_s, mo_isf_s]; simp [c_11, c_26, c_39]
            exact ⟨by (try rw [e_3]); exact lv_sub hl [3, 4, 5, 6, 1, 0] rfl, trivial⟩
          · refine lv_iload hx hb d_M_onesOf_42 (lv_at hl 0 rfl) ?_
            refine k_zeq (a := pn / 3 ^ kv % 3) (tgt := 76) hx hb rfl (by omega) d_M_onesOf_44 (by decide) (fun c_44 => ?_) (fun c_44 => ?_)
            · refine lv_iconst (v := 1) hx hb d_M_onesOf_76 (by decide) ?_
              refine lv_goto (tgt := 81) hx hb d_M_onesOf_77 (by decide) ?_
              refine lv_istore (lv' := [(4, .int 1), (6, .int (nI (pn / 3 ^ kv % 3))), (0, .ref (ad 20)), (1, .int (nI pn)), (2, .int (fo (mo_onf pn nn) vv 0)), (3, .int (nI vv)), (5, .int (nI kv))]) hx hb d_M_onesOf_81 hl (by decide) rfl (fun ls hl => ?_)
              refine lv_iinc (v := nI (kv + 1)) (lv' := [(5, .int (nI (kv + 1))), (4, .int 1), (6, .int (nI (pn / 3 ^ kv % 3))), (0, .ref (ad 20)), (1, .int (nI pn)), (2, .int (fo (mo_onf pn nn) vv 0)), (3, .int (nI vv))]) hx hb d_M_onesOf_83 hl (k := 6) rfl (k_inc _) (by decide) rfl (fun ls hl => ?_)
              refine lv_goto (tgt := 20) hx hb d_M_onesOf_86 (by decide) ?_
              refine ihkv _ (by omega) ?_
              have e_4 : (if (fo (mo_isf pn vv) (kv + 1) true) = true then (1 : Int32) else 0) = 1 := by rw [fo_s, mo_isf_s]; simp [c_11, c_26, c_39, c_44]
              exact ⟨by (try rw [e_4]); exact lv_sub hl [3, 4, 5, 6, 1, 0] rfl, trivial⟩
            · refine lv_iload hx hb d_M_onesOf_47 (lv_at hl 0 rfl) ?_
              refine lv_iconst (v := 1) hx hb d_M_onesOf_49 (by decide) ?_
              refine k_ne (a := pn / 3 ^ kv % 3) (b := 1) (tgt := 57) hx hb rfl rfl (by omega) (by omega) d_M_onesOf_50 (by decide) (fun c_50 => ?_) (fun c_50 => ?_)
              · refine lv_iconst (v := 0) hx hb d_M_onesOf_57 (by decide) ?_
                refine lv_iload_n hx hb d_M_onesOf_58 rfl (lv_at hl 4 rfl) ?_
                refine lv_iload hx hb d_M_onesOf_59 (lv_at hl 6 rfl) ?_
                refine lv_ishr hx hb d_M_onesOf_61 ?_
                refine lv_iconst (v := 1) hx hb d_M_onesOf_62 (by decide) ?_
                refine lv_iand hx hb d_M_onesOf_63 ?_
                refine lv_iconst (v := 1) hx hb d_M_onesOf_64 (by decide) ?_
                refine lv_icmp_ne (tgt := 72) hx hb d_M_onesOf_65 (by decide) (fun c_65 => ?_) (fun c_65 => ?_)
                · have t_65 := (bit_none (by omega) (by omega)).mp c_65
                  refine lv_iconst (v := 0) hx hb d_M_onesOf_72 (by decide) ?_
                  refine k_ne (a := 0) (b := 0) (tgt := 80) hx hb rfl rfl (by decide) (by decide) d_M_onesOf_73 (by decide) (fun h => absurd h (by decide)) (fun _ => ?_)
                  refine lv_iconst (v := 1) hx hb d_M_onesOf_76 (by decide) ?_
                  refine lv_goto (tgt := 81) hx hb d_M_onesOf_77 (by decide) ?_
                  refine lv_istore (lv' := [(4, .int 1), (6, .int (nI (pn / 3 ^ kv % 3))), (0, .ref (ad 20)), (1, .int (nI pn)), (2, .int (fo (mo_onf pn nn) vv 0)), (3, .int (nI vv)), (5, .int (nI kv))]) hx hb d_M_onesOf_81 hl (by decide) rfl (fun ls hl => ?_)
                  refine lv_iinc (v := nI (kv + 1)) (lv' := [(5, .int (nI (kv + 1))), (4, .int 1), (6, .int (nI (pn / 3 ^ kv % 3))), (0, .ref (ad 20)), (1, .int (nI pn)), (2, .int (fo (mo_onf pn nn) vv 0)), (3, .int (nI vv))]) hx hb d_M_onesOf_83 hl (k := 6) rfl (k_inc _) (by decide) rfl (fun ls hl => ?_)
                  refine lv_goto (tgt := 20) hx hb d_M_onesOf_86 (by decide) ?_
                  refine ihkv _ (by omega) ?_
                  have e_5 : (if (fo (mo_isf pn vv) (kv + 1) true) = true then (1 : Int32) else 0) = 1 := by rw [fo_s, mo_isf_s]; simp [c_11, c_26, c_39, c_44, c_50, c_65, t_65]
                  exact ⟨by (try rw [e_5]); exact lv_sub hl [3, 4, 5, 6, 1, 0] rfl, trivial⟩
                · have t_65 := (bit_one (by omega) (by omega)).mp c_65
                  refine lv_iconst (v := 1) hx hb d_M_onesOf_68 (by decide) ?_
                  refine lv_goto (tgt := 73) hx hb d_M_onesOf_69 (by decide) ?_
                  refine k_ne (a := 0) (b := 1) (tgt := 80) hx hb rfl rfl (by decide) (by decide) d_M_onesOf_73 (by decide) (fun _ => ?_) (fun h => absurd h (by decide))
                  refine lv_iconst (v := 0) hx hb d_M_onesOf_80 (by decide) ?_
                  refine lv_istore (lv' := [(4, .int 0), (6, .int (nI (pn / 3 ^ kv % 3))), (0, .ref (ad 20)), (1, .int (nI pn)), (2, .int (fo (mo_onf pn nn) vv 0)), (3, .int (nI vv)), (5, .int (nI kv))]) hx hb d_M_onesOf_81 hl (by decide) rfl (fun ls hl => ?_)
                  refine lv_iinc (v := nI (kv + 1)) (lv' := [(5, .int (nI (kv + 1))), (4, .int 0), (6, .int (nI (pn / 3 ^ kv % 3))), (0, .ref (ad 20)), (1, .int (nI pn)), (2, .int (fo (mo_onf pn nn) vv 0)), (3, .int (nI vv))]) hx hb d_M_onesOf_83 hl (k := 6) rfl (k_inc _) (by decide) rfl (fun ls hl => ?_)
                  refine lv_goto (tgt := 20) hx hb d_M_onesOf_86 (by decide) ?_
                  refine ihkv _ (by omega) ?_
                  have e_6 : (if (fo (mo_isf pn vv) (kv + 1) true) = true then (1 : Int32) else 0) = 0 := by rw [fo_s, mo_isf_s]; simp [c_11, c_26, c_39, c_44, c_50, c_65, t_65]
                  exact ⟨by (try rw [e_6]); exact lv_sub hl [3, 4, 5, 6, 1, 0] rfl, trivial⟩
              · refine lv_iconst (v := 1) hx hb d_M_onesOf_53 (by decide) ?_
                refine lv_goto (tgt := 58) hx hb d_M_onesOf_54 (by decide) ?_
                refine lv_iload_n hx hb d_M_onesOf_58 rfl (lv_at hl 4 rfl) ?_
                refine lv_iload hx hb d_M_onesOf_59 (lv_at hl 6 rfl) ?_
                refine lv_ishr hx hb d_M_onesOf_61 ?_
                refine lv_iconst (v := 1) hx hb d_M_onesOf_62 (by decide) ?_
                refine lv_iand hx hb d_M_onesOf_63 ?_
                refine lv_iconst (v := 1) hx hb d_M_onesOf_64 (by decide) ?_
                refine lv_icmp_ne (tgt := 72) hx hb d_M_onesOf_65 (by decide) (fun c_65 => ?_) (fun c_65 => ?_)
                · have t_65 := (bit_none (by omega) (by omega)).mp c_65
                  refine lv_iconst (v := 0) hx hb d_M_onesOf_72 (by decide) ?_
                  refine k_ne (a := 1) (b := 0) (tgt := 80) hx hb rfl rfl (by decide) (by decide) d_M_onesOf_73 (by decide) (fun _ => ?_) (fun h => absurd h (by decide))
                  refine lv_iconst (v := 0) hx hb d_M_onesOf_80 (by decide) ?_
                  refine lv_istore (lv' := [(4, .int 0), (6, .int (nI (pn / 3 ^ kv % 3))), (0, .ref (ad 20)), (1, .int (nI pn)), (2, .int (fo (mo_onf pn nn) vv 0)), (3, .int (nI vv)), (5, .int (nI kv))]) hx hb d_M_onesOf_81 hl (by decide) rfl (fun ls hl => ?_)
                  refine lv_iinc (v := nI (kv + 1)) (lv' := [(5, .int (nI (kv + 1))), (4, .int 0), (6, .int (nI (pn / 3 ^ kv % 3))), (0, .ref (ad 20)), (1, .int (nI pn)), (2, .int (fo (mo_onf pn nn) vv 0)), (3, .int (nI vv))]) hx hb d_M_onesOf_83 hl (k := 6) rfl (k_inc _) (by decide) rfl (fun ls hl => ?_)
                  refine lv_goto (tgt := 20) hx hb d_M_onesOf_86 (by decide) ?_
                  refine ihkv _ (by omega) ?_
                  have e_7 : (if (fo (mo_isf pn vv) (kv + 1) true) = true then (1 : Int32) else 0) = 0 := by rw [fo_s, mo_isf_s]; simp [c_11, c_26, c_39, c_44, c_50, c_65, t_65]
                  exact ⟨by (try rw [e_7]); exact lv_sub hl [3, 4, 5, 6, 1, 0] rfl, trivial⟩
                · have t_65 := (bit_one (by omega) (by omega)).mp c_65
                  refine lv_iconst (v := 1) hx hb d_M_onesOf_68 (by decide) ?_
                  refine lv_goto (tgt := 73) hx hb d_M_onesOf_69 (by decide) ?_
                  refine k_ne (a := 1) (b := 1) (tgt := 80) hx hb rfl rfl (by decide) (by decide) d_M_onesOf_73 (by decide) (fun h => absurd h (by decide)) (fun _ => ?_)
                  refine lv_iconst (v := 1) hx hb d_M_onesOf_76 (by decide) ?_
                  refine lv_goto (tgt := 81) hx hb d_M_onesOf_77 (by decide) ?_
                  refine lv_istore (lv' := [(4, .int 1), (6, .int (nI (pn / 3 ^ kv % 3))), (0, .ref (ad 20)), (1, .int (nI pn)), (2, .int (fo (mo_onf pn nn) vv 0)), (3, .int (nI vv)), (5, .int (nI kv))]) hx hb d_M_onesOf_81 hl (by decide) rfl (fun ls hl => ?_)
                  refine lv_iinc (v := nI (kv + 1)) (lv' := [(5, .int (nI (kv + 1))), (4, .int 1), (6, .int (nI (pn / 3 ^ kv % 3))), (0, .ref (ad 20)), (1, .int (nI pn)), (2, .int (fo (mo_onf pn nn) vv 0)), (3, .int (nI vv))]) hx hb d_M_onesOf_83 hl (k := 6) rfl (k_inc _) (by decide) rfl (fun ls hl => ?_)
                  refine lv_goto (tgt := 20) hx hb d_M_onesOf_86 (by decide) ?_
                  refine ihkv _ (by omega) ?_
                  have e_8 : (if (fo (mo_isf pn vv) (kv + 1) true) = true then (1 : Int32) else 0) = 1 := by rw [fo_s, mo_isf_s]; simp [c_11, c_26, c_39, c_44, c_50, c_65, t_65]
                  exact ⟨by (try rw [e_8]); exact lv_sub hl [3, 4, 5, 6, 1, 0] rfl, trivial⟩
      · have hdone : True := trivial
        have e_9 : (if (fo (mo_isf pn vv) 0 true) = true then (1 : Int32) else 0) = 1 := rfl
        have e_10 : nI 0 = 0 := rfl
        exact ⟨by (try rw [e_9]); (try rw [e_10]); exact lv_sub hl [2, 3, 4, 5, 1, 0] rfl, trivial⟩
  · have hdone : True := trivial
    have e_11 : fo (mo_onf pn nn) 0 0 = 0 := rfl
    have e_12 : nI 0 = 0 := rfl
    exact ⟨by (try rw [e_11]); (try rw [e_12]); exact lv_sub hl [2, 3, 1, 0] rfl, trivial⟩
set_option maxHeartbeats 4000000 in
set_option maxRecDepth 100000 in
theorem c_m_outputsOf (l : Launch) (dC : Nat → ClassId) (dI : Nat → Nat → Nat) (ad : Nat → Nat) (ca : Nat → ClassId) (thr : Int32) (nn : Nat) (mo : Nat) (man : Int32) (kno : Int32) (cho : Int32) (kep : Int32) (dep : Int32) (cam : Int32) (csz : Int32) (clo : Int64) (chi : Int64) (one : Nat → Int32) (any : Nat → Int32) (pn : Nat) (hpn : pn < 81) (hn4 : nn ≤ 4) (hmo : mo ≤ 2) : Met l y_M_outputsOf w_M_outputsOf ({ frames := 2, cells := 0, slots := 0, locals := 50 }) (kr_P [.ref (ad 20), .int (nI pn)] (dC, dI) vC [(ad 20, eM ad thr (nI nn) (nI mo) man kno cho kep dep cam csz clo chi), (ad 21, eI 2 (ca 21) one), (ad 22, eI 2 (ca 22) any)] [(ca 21, .int), (ca 22, .int)]) (vp_Si (fun r => r = mo_out nn mo one any pn)) 0 0 (fun _ => False) := by
  refine Met.ofW (cc := b_M_outputsOf) (maxL := 5) (ret := (some .int)) (by decide) rfl ?_
  intro p e s m args below meth c s₁ B hml hv
  obtain ⟨rfl, hP, hK⟩ := hv
  have hx := B.exec
  have hb := B.bytes
  have hr := B.returns
  have hts := atoms_spec (ws := w_M_outputsOf) B.pre
  have hlocks := B.notSynchronized
  have hown : s.vm.findClass R_M = some m.cls := findClass_of_methodNamed B.named
  have hl := lv_entry ([.ref (ad 20), .int (nI pn)]) (n := 5) (Nat.le_of_ble_eq_true rfl)
  rw [lg_entry_eq]
  generalize (lg_sl ([.ref (ad 20), .int (nI pn)]) ++ List.replicate (5 - (lg_sl ([.ref (ad 20), .int (nI pn)])).length) Slot.unset).toArray = ls at hl ⊢
  have hl : lv_has ls 5 [(0, .ref (ad 20)), (1, .int (nI pn))] := hl
  refine lv_aload_n hx hb d_M_outputsOf_0 rfl (lv_at hl 0 rfl) ?_
  refine lv_iload_n hx hb d_M_outputsOf_1 rfl (lv_at hl 1 rfl) ?_
  have hPc := hP.sub (ws' := [(ad 20, eM ad thr (nI nn) (nI mo) man kno cho kep dep cam csz clo chi)]) [0] rfl
  have hKc := hK.sub (tys' := []) [] rfl
  refine vp_callSi (W.runV (As := [.int (nI pn)]) (rest := []) ⟨hx, hb, hml, hown, hts⟩ (c_m_onesOf l dC dI ad ca thr nn (nI mo) man kno cho kep dep cam csz clo chi pn (by omega) (by omega)) (cwV 1 hts (gd_V mw_613 mw_615 mw_27 mw_44 mw_616) rfl rfl rfl (by decide +kernel) ⟨Nat.le_of_ble_eq_true rfl, Nat.le_of_ble_eq_true rfl⟩) (kr_V (q0 := 0) (ci := 4) hKc hPc rfl rfl) rfl rfl hl.1 rfl (lv_room (Nat.le_of_ble_eq_true rfl)) d_M_outputsOf_2 ⟨Nat.zero_le _, Nat.zero_le _⟩) (fun r hq => ?_)
  subst hq
  refine lv_istore_n (lv' := [(2, .int (mo_on nn pn)), (0, .ref (ad 20)), (1, .int (nI pn))]) hx hb d_M_outputsOf_5 rfl hl (by decide) rfl (fun ls hl => ?_)
  refine lv_iconst (v := 0) hx hb d_M_outputsOf_6 (by decide) ?_
  refine lv_istore_n (lv' := [(3, .int 0), (2, .int (mo_on nn pn)), (0, .ref (ad 20)), (1, .int (nI pn))]) hx hb d_M_outputsOf_7 rfl hl (by decide) rfl (fun ls hl => ?_)
  refine lv_iconst (v := 0) hx hb d_M_outputsOf_8 (by decide) ?_
  refine lv_istore (lv' := [(4, .int 0), (3, .int 0), (2, .int (mo_on nn pn)), (0, .ref (ad 20)), (1, .int (nI pn))]) hx hb d_M_outputsOf_9 hl (by decide) rfl (fun ls hl => ?_)
  refine k_loopR (fun iv ls => lv_has ls 5 [(0, .ref (ad 20)), (1, .int (nI pn)), (2, .int (mo_on nn pn)), (3, .int (fo (mo_ouf (mo_on nn pn) one any) iv 0)), (4, .int (nI iv))] ∧ True) mo ?_ 0 _ (Nat.zero_le _) ?_
  · intro iv ls hiiv hI ihiv
    obtain ⟨hl, -⟩ := hI
    refine lv_iload hx hb d_M_outputsOf_11 (lv_at hl 4 rfl) ?_
    refine lv_aload_n hx hb d_M_outputsOf_13 rfl (lv_at hl 0 rfl) ?_
    refine va_get (D := (dC, dI)) (ci := 4) (v := .int (nI mo)) (C := R_M) (T := F_M) (N := 33) hx hb hts (hin_of in_M) hown hK hP 0 rfl rfl 2 (by decide) (hw_of hts mw_471) (fun _ h9 => h9) rfl d_M_outputsOf_14 ?_
    refine k_ge (a := iv) (b := mo) (tgt := 59) hx hb rfl rfl (by omega) (by omega) d_M_outputsOf_17 (by decide) (fun c_17 => ?_) (fun c_17 => ?_)
    · obtain rfl : mo = iv := by omega
      refine lv_iload_n hx hb d_M_outputsOf_59 rfl (lv_at hl 3 rfl) ?_
      exact W.iret (v := fo (mo_ouf (mo_on nn pn) one any) mo 0) hx hb hr (fun t ht hW => ⟨fo (mo_ouf (mo_on nn pn) one any) mo 0, rfl, rfl, ht⟩) (fun q h => by cases h) d_M_outputsOf_60
    · refine lv_iload_n hx hb d_M_outputsOf_20 rfl (lv_at hl 2 rfl) ?_
      refine lv_aload_n hx hb d_M_outputsOf_21 rfl (lv_at hl 0 rfl) ?_
      refine va_get (D := (dC, dI)) (ci := 4) (v := .ref (ad 21)) (C := R_M) (T := F_M) (N := 33) hx hb hts (hin_of in_M) hown hK hP 0 rfl rfl 3 (by decide) (hw_of hts mw_472) (fun _ h9 => h9) rfl d_M_outputsOf_22 ?_
      refine lv_iload hx hb d_M_outputsOf_25 (lv_at hl 4 rfl) ?_
      refine k_iald (k := iv) hx hb hK hP 1 0 rfl rfl rfl (by omega) (by decide) d_M_outputsOf_27 ?_
      refine lv_aload_n hx hb d_M_outputsOf_28 rfl (lv_at hl 0 rfl) ?_
      refine va_get (D := (dC, dI)) (ci := 4) (v := .ref (ad 22)) (C := R_M) (T := F_M) (N := 33) hx hb hts (hin_of in_M) hown hK hP 0 rfl rfl 4 (by decide) (hw_of hts mw_473) (fun _ h9 => h9) rfl d_M_outputsOf_29 ?_
      refine lv_iload hx hb d_M_outputsOf_32 (lv_at hl 4 rfl) ?_
      refine k_iald (k := iv) hx hb hK hP 2 1 rfl rfl rfl (by omega) (by decide) d_M_outputsOf_34 ?_
      refine lv_ior hx hb d_M_outputsOf_35 ?_
      refine lv_iconst (v := (-1)) hx hb d_M_outputsOf_36 (by decide) ?_
      refine lv_ixor hx hb d_M_outputsOf_37 ?_
      refine lv_iand hx hb d_M_outputsOf_38 ?_
      refine lv_if_ne (tgt := 51) hx hb d_M_outputsOf_39 (by decide) (fun c_39 => ?_) (fun c_39 => ?_)
      · refine lv_iload_n hx hb d_M_outputsOf_51 rfl (lv_at hl 3 rfl) ?_
        refine lv_istore_n (lv' := [(3, .int (fo (mo_ouf (mo_on nn pn) one any) iv 0)), (0, .ref (ad 20)), (1, .int (nI pn)), (2, .int (mo_on nn pn)), (4, .int (nI iv))]) hx hb d_M_outputsOf_52 rfl hl (by decide) rfl (fun ls hl => ?_)
        refine lv_iinc (v := nI (iv + 1)) (lv' := [(4, .int (nI (iv + 1))), (3, .int (fo (mo_ouf (mo_on nn pn) one any) iv 0)), (0, .ref (ad 20)), (1, .int (nI pn)), (2, .int (mo_on nn pn))]) hx hb d_M_outputsOf_53 hl (k := 4) rfl (k_inc _) (by decide) rfl (fun ls hl => ?_)
        refine lv_goto (tgt := 11) hx hb d_M_outputsOf_56 (by decide) ?_
        refine ihiv _ (by omega) ?_
        have e_1 : fo (mo_ouf (mo_on nn pn) one any) (iv + 1) 0 = fo (mo_ouf (mo_on nn pn) one any) iv 0 := by rw [fo_s]; (first | rfl | exact if_pos c_17 | exact if_neg c_17 | exact if_neg (by rw [c_17]; decide) | exact if_pos c_39 | exact if_neg c_39 | exact if_neg (by rw [c_39]; decide) | exact (if_neg c_17).trans (if_pos c_39) | exact (if_neg c_17).trans (if_neg c_39) | exact (if_neg c_17).trans (if_neg (by rw [c_39]; decide)) | exact (if_neg (by rw [c_17]; decide)).trans (if_pos c_39) | exact (if_neg (by rw [c_17]; decide)).trans (if_neg c_39) | exact (if_neg (by rw [c_17]; decide)).trans (if_neg (by rw [c_39]; decide)) | exact (if_neg c_39).trans (if_pos c_17) | exact (if_neg c_39).trans (if_neg c_17) | exact (if_neg c_39).trans (if_neg (by rw [c_17]; decide)) | exact (if_neg (by rw [c_39]; decide)).trans (if_pos c_17) | exact (if_neg (by rw [c_39]; decide)).trans (if_neg c_17) | exact (if_neg (by rw [c_39]; decide)).trans (if_neg (by rw [c_17]; decide)))
        exact ⟨by (try rw [e_1]); exact lv_sub hl [2, 3, 4, 1, 0] rfl, trivial⟩
      · refine lv_iload_n hx hb d_M_outputsOf_42 rfl (lv_at hl 3 rfl) ?_
        refine lv_iconst (v := 1) hx hb d_M_outputsOf_43 (by decide) ?_
        refine lv_iload hx hb d_M_outputsOf_44 (lv_at hl 4 rfl) ?_
        refine lv_ishl hx hb d_M_outputsOf_46 ?_
        refine lv_ior hx hb d_M_outputsOf_47 ?_
        refine lv_goto (tgt := 52) hx hb d_M_outputsOf_48 (by decide) ?_
        refine lv_istore_n (lv' := [(3, .int ((fo (mo_ouf (mo_on nn pn) one any) iv 0) ||| ((1 : Int32) <<< ((nI iv) &&& 31)))), (0, .ref (ad 20)), (1, .int (nI pn)), (2, .int (mo_on nn pn)), (4, .int (nI iv))]) hx hb d_M_outputsOf_52 rfl hl (by decide) rfl (fun ls hl => ?_)
        refine lv_iinc (v := nI (iv + 1)) (lv' := [(4, .int (nI (iv + 1))), (3, .int ((fo (mo_ouf (mo_on nn pn) one any) iv 0) ||| ((1 : Int32) <<< ((nI iv) &&& 31)))), (0, .ref (ad 20)), (1, .int (nI pn)), (2, .int (mo_on nn pn))]) hx hb d_M_outputsOf_53 hl (k := 4) rfl (k_inc _) (by decide) rfl (fun ls hl => ?_)
        refine lv_goto (tgt := 11) hx hb d_M_outputsOf_56 (by decide) ?_
        refine ihiv _ (by omega) ?_
        have e_2 : fo (mo_ouf (mo_on nn pn) one any) (iv + 1) 0 = (fo (mo_ouf (mo_on nn pn) one any) iv 0) ||| ((1 : Int32) <<< ((nI iv) &&& 31)) := by rw [fo_s]; (first | rfl | exact if_pos c_17 | exact if_neg c_17 | exact if_neg (by rw [c_17]; decide) | exact if_pos c_39 | exact if_neg c_39 | exact if_neg (by rw [c_39]; decide) | exact (if_neg c_17).trans (if_pos c_39) | exact (if_neg c_17).trans (if_neg c_39) | exact (if_neg c_17).trans (if_neg (by rw [c_39]; decide)) | exact (if_neg (by rw [c_17]; decide)).trans (if_pos c_39) | exact (if_neg (by rw [c_17]; decide)).trans (if_neg c_39) | exact (if_neg (by rw [c_17]; decide)).trans (if_neg (by rw [c_39]; decide)) | exact (if_neg c_39).trans (if_pos c_17) | exact (if_neg c_39).trans (if_neg c_17) | exact (if_neg c_39).trans (if_neg (by rw [c_17]; decide)) | exact (if_neg (by rw [c_39]; decide)).trans (if_pos c_17) | exact (if_neg (by rw [c_39]; decide)).trans (if_neg c_17) | exact (if_neg (by rw [c_39]; decide)).trans (if_neg (by rw [c_17]; decide)))
        exact ⟨by (try rw [e_2]); exact lv_sub hl [2, 3, 4, 1, 0] rfl, trivial⟩
  · have hdone : True := trivial
    have e_3 : fo (mo_ouf (mo_on nn pn) one any) 0 0 = 0 := rfl
    have e_4 : nI 0 = 0 := rfl
    exact ⟨by (try rw [e_3]); (try rw [e_4]); exact lv_sub hl [3, 4, 2, 1, 0] rfl, trivial⟩
