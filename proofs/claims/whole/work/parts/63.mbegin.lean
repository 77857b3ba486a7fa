set_option maxHeartbeats 4000000 in
set_option maxRecDepth 100000 in
theorem c_m_coveredBy (l : Launch) (dC : Nat → ClassId) (dI : Nat → Nat → Nat) (ad : Nat → Nat) (ca : Nat → ClassId) (thr : Int32) (inn : Int32) (oun : Int32) (mn : Nat) (kno : Int32) (cho : Int32) (kep : Int32) (dep : Int32) (cam : Int32) (csz : Int32) (clo : Int64) (chi : Int64) (num : Nat → Int32) (cov : Nat → Int32) (fm : Int32) (lo : Int64) (hi : Int64) (hmn : mn ≤ 81) : Met l y_M_coveredBy w_M_coveredBy ({ frames := 0, cells := 0, slots := 0, locals := 0 }) (kr_P [.ref (ad 20), .int fm, .long lo, .long hi] (dC, dI) vC [(ad 20, eM ad thr inn oun (nI mn) kno cho kep dep cam csz clo chi), (ad 23, eI 81 (ca 23) num), (ad 27, eI 81 (ca 27) cov)] [(ca 23, .int), (ca 27, .int)]) (vp_Si (fun r => r = mo_cb num cov mn fm lo hi)) 0 0 (fun _ => False) := by
  refine Met.ofW (cc := b_M_coveredBy) (maxL := 9) (ret := (some .int)) (by decide) rfl ?_
  intro p e s m args below meth c s₁ B hml hv
  obtain ⟨rfl, hP, hK⟩ := hv
  have hx := B.exec
  have hb := B.bytes
  have hr := B.returns
  have hts := atoms_spec (ws := w_M_coveredBy) B.pre
  have hlocks := B.notSynchronized
  have hown : s.vm.findClass R_M = some m.cls := findClass_of_methodNamed B.named
  have hl := lv_entry ([.ref (ad 20), .int fm, .long lo, .long hi]) (n := 9) (Nat.le_of_ble_eq_true rfl)
  rw [lg_entry_eq]
  generalize (lg_sl ([.ref (ad 20), .int fm, .long lo, .long hi]) ++ List.replicate (9 - (lg_sl ([.ref (ad 20), .int fm, .long lo, .long hi])).length) Slot.unset).toArray = ls at hl ⊢
  have hl : lv_has ls 9 [(0, .ref (ad 20)), (1, .int fm), (2, .long lo), (4, .long hi)] := hl
  refine lv_iconst (v := 0) hx hb d_M_coveredBy_0 (by decide) ?_
  refine lv_istore (lv' := [(6, .int 0), (0, .ref (ad 20)), (1, .int fm), (2, .long lo), (4, .long hi)]) hx hb d_M_coveredBy_1 hl (by decide) rfl (fun ls hl => ?_)
  refine lv_iconst (v := 0) hx hb d_M_coveredBy_3 (by decide) ?_
  refine lv_istore (lv' := [(7, .int 0), (6, .int 0), (0, .ref (ad 20)), (1, .int fm), (2, .long lo), (4, .long hi)]) hx hb d_M_coveredBy_4 hl (by decide) rfl (fun ls hl => ?_)
  refine k_loopR (fun kv ls => lv_has ls 9 [(0, .ref (ad 20)), (1, .int fm), (2, .long lo), (4, .long hi), (6, .int (fo (mo_cbf num cov fm lo hi) kv 0)), (7, .int (nI kv))] ∧ True) mn ?_ 0 _ (Nat.zero_le _) ?_
  · intro kv ls hikv hI ihkv
    obtain ⟨hl, -⟩ := hI
    refine lv_iload hx hb d_M_coveredBy_6 (lv_at hl 5 rfl) ?_
    refine lv_aload_n hx hb d_M_coveredBy_8 rfl (lv_at hl 0 rfl) ?_
    refine va_get (D := (dC, dI)) (ci := 4) (v := .int (nI mn)) (C := R_M) (T := F_M) (N := 33) hx hb hts (hin_of in_M) hown hK hP 0 rfl rfl 5 (by decide) (hw_of hts mw_474) (fun _ h9 => h9) rfl d_M_coveredBy_9 ?_
    refine k_ge (a := kv) (b := mn) (tgt := 102) hx hb rfl rfl (by omega) (by omega) d_M_coveredBy_12 (by decide) (fun c_12 => ?_) (fun c_12 => ?_)
    · obtain rfl : mn = kv := by omega
      refine lv_iload hx hb d_M_coveredBy_102 (lv_at hl 4 rfl) ?_
      exact W.iret (v := fo (mo_cbf num cov fm lo hi) mn 0) hx hb hr (fun t ht hW => ⟨fo (mo_cbf num cov fm lo hi) mn 0, rfl, rfl, ht⟩) (fun q h => by cases h) d_M_coveredBy_104
    · refine lv_iload hx hb d_M_coveredBy_15 (lv_at hl 5 rfl) ?_
      refine lv_bipush (v := 41) hx hb d_M_coveredBy_17 (by decide) ?_
      refine k_ge (a := kv) (b := 41) (tgt := 41) hx hb rfl rfl (by omega) (by omega) d_M_coveredBy_19 (by decide) (fun c_19 => ?_) (fun c_19 => ?_)
      · refine lv_lload hx hb d_M_coveredBy_41 (lv_at hl 3 rfl) ?_
        refine lv_iload hx hb d_M_coveredBy_43 (lv_at hl 5 rfl) ?_
        refine lv_bipush (v := 41) hx hb d_M_coveredBy_45 (by decide) ?_
        refine k_isub (a := kv) (b := 41) hx hb rfl rfl c_19 d_M_coveredBy_47 ?_
        refine k_bit1 (i := kv - 41) (tgt := 60) hx hb rfl (by omega) d_M_coveredBy_48 d_M_coveredBy_49 d_M_coveredBy_50 d_M_coveredBy_51 d_M_coveredBy_52 d_M_coveredBy_53 (by decide) (fun b_48 => ?_) (fun b_48 => ?_)
        · refine lv_iconst (v := 0) hx hb d_M_coveredBy_60 (by decide) ?_
          have hgo : mo_gone lo hi kv = false := by first | exact (if_pos (by omega)).trans b_25 | exact (if_neg (by omega)).trans b_48
          refine lv_istore (lv' := [(8, .int 0), (0, .ref (ad 20)), (1, .int fm), (2, .long lo), (4, .long hi), (6, .int (fo (mo_cbf num cov fm lo hi) kv 0)), (7, .int (nI kv))]) hx hb d_M_coveredBy_61 hl (by decide) rfl (fun ls hl => ?_)
          refine lv_aload_n hx hb d_M_coveredBy_63 rfl (lv_at hl 1 rfl) ?_
          refine va_get (D := (dC, dI)) (ci := 4) (v := .ref (ad 23)) (C := R_M) (T := F_M) (N := 33) hx hb hts (hin_of in_M) hown hK hP 0 rfl rfl 6 (by decide) (hw_of hts mw_475) (fun _ h9 => h9) rfl d_M_coveredBy_64 ?_
          refine lv_iload hx hb d_M_coveredBy_67 (lv_at hl 6 rfl) ?_
          refine k_iald (k := kv) hx hb hK hP 1 0 rfl rfl rfl (by omega) (by decide) d_M_coveredBy_69 ?_
          refine lv_iload_n hx hb d_M_coveredBy_70 rfl (lv_at hl 2 rfl) ?_
          refine lv_icmp_lt (tgt := 92) hx hb d_M_coveredBy_71 (by decide) (fun c_71 => ?_) (fun c_71 => ?_)
          · refine lv_iload hx hb d_M_coveredBy_92 (lv_at hl 5 rfl) ?_
            refine lv_istore (lv' := [(6, .int (fo (mo_cbf num cov fm lo hi) kv 0)), (8, .int 0), (0, .ref (ad 20)), (1, .int fm), (2, .long lo), (4, .long hi), (7, .int (nI kv))]) hx hb d_M_coveredBy_94 hl (by decide) rfl (fun ls hl => ?_)
            refine lv_iinc (v := nI (kv + 1)) (lv' := [(7, .int (nI (kv + 1))), (6, .int (fo (mo_cbf num cov fm lo hi) kv 0)), (8, .int 0), (0, .ref (ad 20)), (1, .int fm), (2, .long lo), (4, .long hi)]) hx hb d_M_coveredBy_96 hl (k := 6) rfl (k_inc _) (by decide) rfl (fun ls hl => ?_)
            refine lv_goto (tgt := 6) hx hb d_M_coveredBy_99 (by decide) ?_
            refine ihkv _ (by omega) ?_
            have e_1 : fo (mo_cbf num cov fm lo hi) (kv + 1) 0 = fo (mo_cbf num cov fm lo hi) kv 0 := by rw [fo_s]; first | exact if_pos c_71 | exact (if_neg c_71).trans (if_pos hgo) | exact (if_neg c_71).trans (if_neg (by rw [hgo]; decide))
            exact ⟨by (try rw [e_1]); exact lv_sub hl [3, 4, 5, 6, 1, 0] rfl, trivial⟩
          · refine lv_iload hx hb d_M_coveredBy_74 (lv_at hl 0 rfl) ?_
            refine lv_if_ne (tgt := 92) hx hb d_M_coveredBy_76 (by decide) (fun h => absurd rfl h) (fun _ => ?_)
            refine lv_iload hx hb d_M_coveredBy_79 (lv_at hl 5 rfl) ?_
            refine lv_aload_n hx hb d_M_coveredBy_81 rfl (lv_at hl 1 rfl) ?_
            refine va_get (D := (dC, dI)) (ci := 4) (v := .ref (ad 27)) (C := R_M) (T := F_M) (N := 33) hx hb hts (hin_of in_M) hown hK hP 0 rfl rfl 10 (by decide) (hw_of hts mw_479) (fun _ h9 => h9) rfl d_M_coveredBy_82 ?_
            refine lv_iload hx hb d_M_coveredBy_85 (lv_at hl 6 rfl) ?_
            refine k_iald (k := kv) hx hb hK hP 2 1 rfl rfl rfl (by omega) (by decide) d_M_coveredBy_87 ?_
            refine lv_ior hx hb d_M_coveredBy_88 ?_
            refine lv_goto (tgt := 94) hx hb d_M_coveredBy_89 (by decide) ?_
            refine lv_istore (lv' := [(6, .int ((fo (mo_cbf num cov fm lo hi) kv 0) ||| (cov kv))), (8, .int 0), (0, .ref (ad 20)), (1, .int fm), (2, .long lo), (4, .long hi), (7, .int (nI kv))]) hx hb d_M_coveredBy_94 hl (by decide) rfl (fun ls hl => ?_)
            refine lv_iinc (v := nI (kv + 1)) (lv' := [(7, .int (nI (kv + 1))), (6, .int ((fo (mo_cbf num cov fm lo hi) kv 0) ||| (cov kv))), (8, .int 0), (0, .ref (ad 20)), (1, .int fm), (2, .long lo), (4, .long hi)]) hx hb d_M_coveredBy_96 hl (k := 6) rfl (k_inc _) (by decide) rfl (fun ls hl => ?_)
            refine lv_goto (tgt := 6) hx hb d_M_coveredBy_99 (by decide) ?_
            refine ihkv _ (by omega) ?_
            have e_2 : fo (mo_cbf num cov fm lo hi) (kv + 1) 0 = (fo (mo_cbf num cov fm lo hi) kv 0) ||| (cov kv) := by rw [fo_s]; first | exact if_pos c_71 | exact (if_neg c_71).trans (if_pos hgo) | exact (if_neg c_71).trans (if_neg (by rw [hgo]; decide))
            exact ⟨by (try rw [e_2]); exact lv_sub hl [3, 4, 5, 6, 1, 0] rfl, trivial⟩
        · refine lv_iconst (v := 1) hx hb d_M_coveredBy_56 (by decide) ?_
          refine lv_goto (tgt := 61) hx hb d_M_coveredBy_57 (by decide) ?_
          have hgo : mo_gone lo hi kv = true := by first | exact (if_pos (by omega)).trans b_25 | exact (if_neg (by omega)).trans b_48
          refine lv_istore (lv' := [(8, .int 1), (0, .ref (ad 20)), (1, .int fm), (2, .long lo), (4, .long hi), (6, .int (fo (mo_cbf num cov fm lo hi) kv 0)), (7, .int (nI kv))]) hx hb d_M_coveredBy_61 hl (by decide) rfl (fun ls hl => ?_)
          refine lv_aload_n hx hb d_M_coveredBy_63 rfl (lv_at hl 1 rfl) ?_
          refine va_get (D := (dC, dI)) (ci := 4) (v := .ref (ad 23)) (C := R_M) (T := F_M) (N := 33) hx hb hts (hin_of in_M) hown hK hP 0 rfl rfl 6 (by decide) (hw_of hts mw_475) (fun _ h9 => h9) rfl d_M_coveredBy_64 ?_
          refine lv_iload hx hb d_M_coveredBy_67 (lv_at hl 6 rfl) ?_
          refine k_iald (k := kv) hx hb hK hP 1 0 rfl rfl rfl (by omega) (by decide) d_M_coveredBy_69 ?_
          refine lv_iload_n hx hb d_M_coveredBy_70 rfl (lv_at hl 2 rfl) ?_
          refine lv_icmp_lt (tgt := 92) hx hb d_M_coveredBy_71 (by decide) (fun c_71 => ?_) (fun c_71 => ?_)
          · refine lv_iload hx hb d_M_coveredBy_92 (lv_at hl 5 rfl) ?_
            refine lv_istore (lv' := [(6, .int (fo (mo_cbf num cov fm lo hi) kv 0)), (8, .int 1), (0, .ref (ad 20)), (1, .int fm), (2, .long lo), (4, .long hi), (7, .int (nI kv))]) hx hb d_M_coveredBy_94 hl (by decide) rfl (fun ls hl => ?_)
            refine lv_iinc (v := nI (kv + 1)) (lv' := [(7, .int (nI (kv + 1))), (6, .int (fo (mo_cbf num cov fm lo hi) kv 0)), (8, .int 1), (0, .ref (ad 20)), (1, .int fm), (2, .long lo), (4, .long hi)]) hx hb d_M_coveredBy_96 hl (k := 6) rfl (k_inc _) (by decide) rfl (fun ls hl => ?_)
            refine lv_goto (tgt := 6) hx hb d_M_coveredBy_99 (by decide) ?_
            refine ihkv _ (by omega) ?_
            have e_3 : fo (mo_cbf num cov fm lo hi) (kv + 1) 0 = fo (mo_cbf num cov fm lo hi) kv 0 := by rw [fo_s]; first | exact if_pos c_71 | exact (if_neg c_71).trans (if_pos hgo) | exact (if_neg c_71).trans (if_neg (by rw [hgo]; decide))
            exact ⟨by (try rw [e_3]); exact lv_sub hl [3, 4, 5, 6, 1, 0] rfl, trivial⟩
          · refine lv_iload hx hb d_M_coveredBy_74 (lv_at hl 0 rfl) ?_
            refine lv_if_ne (tgt := 92) hx hb d_M_coveredBy_76 (by decide) (fun _ => ?_) (fun h => absurd h (by decide))
            refine lv_iload hx hb d_M_coveredBy_92 (lv_at hl 5 rfl) ?_
            refine lv_istore (lv' := [(6, .int (fo (mo_cbf num cov fm lo hi) kv 0)), (8, .int 1), (0, .ref (ad 20)), (1, .int fm), (2, .long lo), (4, .long hi), (7, .int (nI kv))]) hx hb d_M_coveredBy_94 hl (by decide) rfl (fun ls hl => ?_)
            refine lv_iinc (v := nI (kv + 1)) (lv' := [(7, .int (nI (kv + 1))), (6, .int (fo (mo_cbf num cov fm lo hi) kv 0)), (8, .int 1), (0, .ref (ad 20)), (1, .int fm), (2, .long lo), (4, .long hi)]) hx hb d_M_coveredBy_96 hl (k := 6) rfl (k_inc _) (by decide) rfl (fun ls hl => ?_)
            refine lv_goto (tgt := 6) hx hb d_M_coveredBy_99 (by decide) ?_
            refine ihkv _ (by omega) ?_
            have e_4 : fo (mo_cbf num cov fm lo hi) (kv + 1) 0 = fo (mo_cbf num cov fm lo hi) kv 0 := by rw [fo_s]; first | exact if_pos c_71 | exact (if_neg c_71).trans (if_pos hgo) | exact (if_neg c_71).trans (if_neg (by rw [hgo]; decide))
            exact ⟨by (try rw [e_4]); exact lv_sub hl [3, 4, 5, 6, 1, 0] rfl, trivial⟩
      · refine lv_lload_n hx hb d_M_coveredBy_22 rfl (lv_at hl 2 rfl) ?_
        refine lv_iload hx hb d_M_coveredBy_23 (lv_at hl 5 rfl) ?_
        refine k_bit1 (i := kv) (tgt := 37) hx hb rfl (by omega) d_M_coveredBy_25 d_M_coveredBy_26 d_M_coveredBy_27 d_M_coveredBy_28 d_M_coveredBy_29 d_M_coveredBy_30 (by decide) (fun b_25 => ?_) (fun b_25 => ?_)
        · refine lv_iconst (v := 0) hx hb d_M_coveredBy_37 (by decide) ?_
          refine lv_goto (tgt := 61) hx hb d_M_coveredBy_38 (by decide) ?_
          have hgo : mo_gone lo hi kv = false := by first | exact (if_pos (by omega)).trans b_25 | exact (if_neg (by omega)).trans b_48
          refine lv_istore (lv' := [(8, .int 0), (0, .ref (ad 20)), (1, .int fm), (2, .long lo), (4, .long hi), (6, .int (fo (mo_cbf num cov fm lo hi) kv 0)), (7, .int (nI kv))]) hx hb d_M_coveredBy_61 hl (by decide) rfl (fun ls hl => ?_)
          refine lv_aload_n hx hb d_M_coveredBy_63 rfl (lv_at hl 1 rfl) ?_
          refine va_get (D := (dC, dI)) (ci := 4) (v := .ref (ad 23)) (C := R_M) (T := F_M) (N := 33) hx hb hts (hin_of in_M) hown hK hP 0 rfl rfl 6 (by decide) (hw_of hts mw_475) (fun _ h9 => h9) rfl d_M_coveredBy_64 ?_
          refine lv_iload hx hb d_M_coveredBy_67 (lv_at hl 6 rfl) ?_
          refine k_iald (k := kv) hx hb hK hP 1 0 rfl rfl rfl (by omega) (by decide) d_M_coveredBy_69 ?_
          refine lv_iload_n hx hb d_M_coveredBy_70 rfl (lv_at hl 2 rfl) ?_
          refine lv_icmp_lt (tgt := 92) hx hb d_M_coveredBy_71 (by decide) (fun c_71 => ?_) (fun c_71 => ?_)
          · refine lv_iload hx hb d_M_coveredBy_92 (lv_at hl 5 rfl) ?_
            refine lv_istore (lv' := [(6, .int (fo (mo_cbf num cov fm lo hi) kv 0)), (8, .int 0), (0, .ref (ad 20)), (1, .int fm), (2, .long lo), (4, .long hi), (7, .int (nI kv))]) hx hb d_M_coveredBy_94 hl (by decide) rfl (fun ls hl => ?_)
            refine lv_iinc (v := nI (kv + 1)) (lv' := [(7, .int (nI (kv + 1))), (6, .int (fo (mo_cbf num cov fm lo hi) kv 0)), (8, .int 0), (0, .ref (ad 20)), (1, .int fm), (2, .long lo), (4, .long hi)]) hx hb d_M_coveredBy_96 hl (k := 6) rfl (k_inc _) (by decide) rfl (fun ls hl => ?_)
            refine lv_goto (tgt := 6) hx hb d_M_coveredBy_99 (by decide) ?_
            refine ihkv _ (by omega) ?_
            have e_5 : fo (mo_cbf num cov fm lo hi) (kv + 1) 0 = fo (mo_cbf num cov fm lo hi) kv 0 := by rw [fo_s]; first | exact if_pos c_71 | exact (if_neg c_71).trans (if_pos hgo) | exact (if_neg c_71).trans (if_neg (by rw [hgo]; decide))
            exact ⟨by (try rw [e_5]); exact lv_sub hl [3, 4, 5, 6, 1, 0] rfl, trivial⟩
          · refine lv_iload hx hb d_M_coveredBy_74 (lv_at hl 0 rfl) ?_
            refine lv_if_ne (tgt := 92) hx hb d_M_coveredBy_76 (by decide) (fun h => absurd rfl h) (fun _ => ?_)
            refine lv_iload hx hb d_M_coveredBy_79 (lv_at hl 5 rfl) ?_
            refine lv_aload_n hx hb d_M_coveredBy_81 rfl (lv_at hl 1 rfl) ?_
            refine va_get (D := (dC, dI)) (ci := 4) (v := .ref (ad 27)) (C := R_M) (T := F_M) (N := 33) hx hb hts (hin_of in_M) hown hK hP 0 rfl rfl 10 (by decide) (hw_of hts mw_479) (fun _ h9 => h9) rfl d_M_coveredBy_82 ?_
            refine lv_iload hx hb d_M_coveredBy_85 (lv_at hl 6 rfl) ?_
            refine k_iald (k := kv) hx hb hK hP 2 1 rfl rfl rfl (by omega) (by decide) d_M_coveredBy_87 ?_
            refine lv_ior hx hb d_M_coveredBy_88 ?_
            refine lv_goto (tgt := 94) hx hb d_M_coveredBy_89 (by decide) ?_
            refine lv_istore (lv' := [(6, .int ((fo (mo_cbf num cov fm lo hi) kv 0) ||| (cov kv))), (8, .int 0), (0, .ref (ad 20)), (1, .int fm), (2, .long lo), (4, .long hi), (7, .int (nI kv))]) hx hb d_M_coveredBy_94 hl (by decide) rfl (fun ls hl => ?_)
            refine lv_iinc (v := nI (kv + 1)) (lv' := [(7, .int (nI (kv + 1))), (6, .int ((fo (mo_cbf num cov fm lo hi) kv 0) ||| (cov kv))), (8, .int 0), (0, .ref (ad 20)), (1, .int fm), (2, .long lo), (4, .long hi)]) hx hb d_M_coveredBy_96 hl (k := 6) rfl (k_inc _) (by decide) rfl (fun ls hl => ?_)
            refine lv_goto (tgt := 6) hx hb d_M_coveredBy_99 (by decide) ?_
            refine ihkv _ (by omega) ?_
            have e_6 : fo (mo_cbf num cov fm lo hi) (kv + 1) 0 = (fo (mo_cbf num cov fm lo hi) kv 0) ||| (cov kv) := by rw [fo_s]; first | exact if_pos c_71 | exact (if_neg c_71).trans (if_pos hgo) | exact (if_neg c_71).trans (if_neg (by rw [hgo]; decide))
            exact ⟨by (try rw [e_6]); exact lv_sub hl [3, 4, 5, 6, 1, 0] rfl, trivial⟩
        · refine lv_iconst (v := 1) hx hb d_M_coveredBy_33 (by decide) ?_
          refine lv_goto (tgt := 61) hx hb d_M_coveredBy_34 (by decide) ?_
          have hgo : mo_gone lo hi kv = true := by first | exact (if_pos (by omega)).trans b_25 | exact (if_neg (by omega)).trans b_48
          refine lv_istore (lv' := [(8, .int 1), (0, .ref (ad 20)), (1, .int fm), (2, .long lo), (4, .long hi), (6, .int (fo (mo_cbf num cov fm lo hi) kv 0)), (7, .int (nI kv))]) hx hb d_M_coveredBy_61 hl (by decide) rfl (fun ls hl => ?_)
          refine lv_aload_n hx hb d_M_coveredBy_63 rfl (lv_at hl 1 rfl) ?_
          refine va_get (D := (dC, dI)) (ci := 4) (v := .ref (ad 23)) (C := R_M) (T := F_M) (N := 33) hx hb hts (hin_of in_M) hown hK hP 0 rfl rfl 6 (by decide) (hw_of hts mw_475) (fun _ h9 => h9) rfl d_M_coveredBy_64 ?_
          refine lv_iload hx hb d_M_coveredBy_67 (lv_at hl 6 rfl) ?_
          refine k_iald (k := kv) hx hb hK hP 1 0 rfl rfl rfl (by omega) (by decide) d_M_coveredBy_69 ?_
          refine lv_iload_n hx hb d_M_coveredBy_70 rfl (lv_at hl 2 rfl) ?_
          refine lv_icmp_lt (tgt := 92) hx hb d_M_coveredBy_71 (by decide) (fun c_71 => ?_) (fun c_71 => ?_)
          · refine lv_iload hx hb d_M_coveredBy_92 (lv_at hl 5 rfl) ?_
            refine lv_istore (lv' := [(6, .int (fo (mo_cbf num cov fm lo hi) kv 0)), (8, .int 1), (0, .ref (ad 20)), (1, .int fm), (2, .long lo), (4, .long hi), (7, .int (nI kv))]) hx hb d_M_coveredBy_94 hl (by decide) rfl (fun ls hl => ?_)
            refine lv_iinc (v := nI (kv + 1)) (lv' := [(7, .int (nI (kv + 1))), (6, .int (fo (mo_cbf num cov fm lo hi) kv 0)), (8, .int 1), (0, .ref (ad 20)), (1, .int fm), (2, .long lo), (4, .long hi)]) hx hb d_M_coveredBy_96 hl (k := 6) rfl (k_inc _) (by decide) rfl (fun ls hl => ?_)
            refine lv_goto (tgt := 6) hx hb d_M_coveredBy_99 (by decide) ?_
            refine ihkv _ (by omega) ?_
            have e_7 : fo (mo_cbf num cov fm lo hi) (kv + 1) 0 = fo (mo_cbf num cov fm lo hi) kv 0 := by rw [fo_s]; first | exact if_pos c_71 | exact (if_neg c_71).trans (if_pos hgo) | exact (if_neg c_71).trans (if_neg (by rw [hgo]; decide))
            exact ⟨by (try rw [e_7]); exact lv_sub hl [3, 4, 5, 6, 1, 0] rfl, trivial⟩
          · refine lv_iload hx hb d_M_coveredBy_74 (lv_at hl 0 rfl) ?_
            refine lv_if_ne (tgt := 92) hx hb d_M_coveredBy_76 (by decide) (fun _ => ?_) (fun h => absurd h (by decide))
            refine lv_iload hx hb d_M_coveredBy_92 (lv_at hl 5 rfl) ?_
            refine lv_istore (lv' := [(6, .int (fo (mo_cbf num cov fm lo hi) kv 0)), (8, .int 1), (0, .ref (ad 20)), (1, .int fm), (2, .long lo), (4, .long hi), (7, .int (nI kv))]) hx hb d_M_coveredBy_94 hl (by decide) rfl (fun ls hl => ?_)
            refine lv_iinc (v := nI (kv + 1)) (lv' := [(7, .int (nI (kv + 1))), (6, .int (fo (mo_cbf num cov fm lo hi) kv 0)), (8, .int 1), (0, .ref (ad 20)), (1, .int fm), (2, .long lo), (4, .long hi)]) hx hb d_M_coveredBy_96 hl (k := 6) rfl (k_inc _) (by decide) rfl (fun ls hl => ?_)
            refine lv_goto (tgt := 6) hx hb d_M_coveredBy_99 (by decide) ?_
            refine ihkv _ (by omega) ?_
            have e_8 : fo (mo_cbf num cov fm lo hi) (kv + 1) 0 = fo (mo_cbf num cov fm lo hi) kv 0 := by rw [fo_s]; first | exact if_pos c_71 | exact (if_neg c_71).trans (if_pos hgo) | exact (if_neg c_71).trans (if_neg (by rw [hgo]; decide))
            exact ⟨by (try rw [e_8]); exact lv_sub hl [3, 4, 5, 6, 1, 0] rfl, trivial⟩
  · have hdone : True := trivial
    have e_9 : fo (mo_cbf num cov fm lo hi) 0 0 = 0 := rfl
    have e_10 : nI 0 = 0 := rfl
    exact ⟨by (try rw [e_9]); (try rw [e_10]); exact lv_sub hl [2, 3, 4, 5, 1, 0] rfl, trivial⟩
set_option maxHeartbeats 4000000 in
set_option maxRecDepth 100000 in
theorem c_m_begin (l : Launch) (dC : Nat → ClassId) (dI : Nat → Nat → Nat) (ad : Nat → Nat) (ca : Nat → ClassId) (thr : Int32) (inn : Int32) (oun : Int32) (man : Int32) (kno : Int32) (cho : Int32) (kep : Int32) (dep : Int32) (cam : Int32) (csz : Int32) (clo : Int64) (chi : Int64) (one : Nat → Int32) (any : Nat → Int32) (i1 : Int32) (o1 : Int32) (sz : Nat) : Met l y_M_begin w_M_begin ({ frames := 1, cells := 0, slots := 0, locals := 22 }) (kw_P [.ref (ad 20), .int i1, .int o1] sz (dC, dI) vC [(ad 20, eM ad thr inn oun man kno cho kep dep cam csz clo chi), (ad 21, eI 2 (ca 21) one), (ad 22, eI 2 (ca 22) any)] [(ca 21, .int), (ca 22, .int)]) (kw_Qv (dC, dI) vC [(ca 21, .int), (ca 22, .int)] (va_A [(ad 20, eM ad thr inn oun man kno cho kep dep cam csz clo chi), (ad 21, eI 2 (ca 21) one), (ad 22, eI 2 (ca 22) any)] sz) [(ad 20, eM ad (sel (mo_bg i1 o1) (0 : Int32) 1) (sel (mo_bg i1 o1) i1 inn) (sel (mo_bg i1 o1) o1 oun) man (sel (mo_bg i1 o1) 0 kno) cho kep dep cam csz clo chi), (ad 21, eI 2 (ca 21) (sel (mo_bg i1 o1) (fo (mc_setf 0) 2 one) one)), (ad 22, eI 2 (ca 22) (sel (mo_bg i1 o1) (fo (mc_setf 0) 2 any) any))]) 0 0 (va_A [(ad 20, eM ad thr inn oun man kno cho kep dep cam csz clo chi), (ad 21, eI 2 (ca 21) one), (ad 22, eI 2 (ca 22) any)] sz) := by
  refine Met.ofW (cc := b_M_begin) (maxL := 4) (ret := none) (by decide) rfl ?_
  intro p e s m args below meth c s₁ B hml hv
  obtain ⟨rfl, hsz, hP, hK, hD0⟩ := hv
  have hx := B.exec
  have hb := B.bytes
  have hr := B.returns
  have hts := atoms_spec (ws := w_M_begin) B.pre
  have hlocks := B.notSynchronized
  have hown : s.vm.findClass R_M = some m.cls := findClass_of_methodNamed B.named
  subst hsz
  have hD := hD0.self (sz := s.heap.size)
  generalize hAe : va_A [(ad 20, eM ad thr inn oun man kno cho kep dep cam csz clo chi), (ad 21, eI 2 (ca 21) one), (ad 22, eI 2 (ca 22) any)] s.heap.size = A at hD ⊢
  have hA : ∀ q : Nat, s.heap.size ≤ q → A q := fun q h => by rw [← hAe]; exact Or.inr h
  have hS : va_S A s.heap s.heap [] := va_S.rf
  have hP : va_P (dC, dI) vC [(ad 20, eM ad thr inn oun man kno cho kep dep cam csz clo chi), (ad 21, eI 2 (ca 21) one), (ad 22, eI 2 (ca 22) any)] s.heap := hP
  have hl := lv_entry ([.ref (ad 20), .int i1, .int o1]) (n := 4) (Nat.le_of_ble_eq_true rfl)
  rw [lg_entry_eq]
  generalize (lg_sl ([.ref (ad 20), .int i1, .int o1]) ++ List.replicate (4 - (lg_sl ([.ref (ad 20), .int i1, .int o1])).length) Slot.unset).toArray = ls at hl ⊢
  have hl : lv_has ls 4 [(0, .ref (ad 20)), (1, .int i1), (2, .int o1)] := hl
  refine lv_aload_n hx hb d_M_begin_0 rfl (lv_at hl 0 rfl) ?_
  refine lv_iload_n hx hb d_M_begin_1 rfl (lv_at hl 1 rfl) ?_
  refine lv_iconst (v := 1) hx hb d_M_begin_2 (by decide) ?_
  refine lv_iconst (v := 4) hx hb d_M_begin_3 (by decide) ?_
  have hPc := hP.sub (ws' := []) [] rfl
  have hKc := hK.sub (tys' := []) [] rfl
  refine vp_callSi (W.runS (As := [.int i1, .int 1, .int 4]) (rest := [.ref (ad 20)]) ⟨hx, hb, hml, hown, hts⟩ (c_m_in l dC dI ad ca i1 1 4) (va_cwS 3 hts (gd_S mw_578 mw_579 mw_44 mw_580) rfl rfl rfl (by decide +kernel) ⟨Nat.le_of_ble_eq_true rfl, Nat.le_of_ble_eq_true rfl⟩) (kr_S hKc hPc) rfl rfl hl.1 rfl (lv_room (Nat.le_of_ble_eq_true rfl)) d_M_begin_4 ⟨Nat.zero_le _, Nat.zero_le _⟩) (fun r hq => ?_)
  subst hq
  refine k_beq (b := (!decide (i1 < 1) && !decide (4 < i1))) (tgt := 19) hx hb d_M_begin_7 (by decide) (fun c_7 => ?_) (fun c_7 => ?_)
  · refine lv_iconst (v := 1) hx hb d_M_begin_19 (by decide) ?_
    refine lv_goto (tgt := 24) hx hb d_M_begin_20 (by decide) ?_
    refine lv_iconst (v := 0) hx hb d_M_begin_24 (by decide) ?_
    have hPc := hP.sub (ws' := [(ad 20, eM ad thr inn oun man kno cho kep dep cam csz clo chi)]) [0] rfl
    have hDc := hD.sub (ws' := [(ad 20, eM ad thr inn oun man kno cho kep dep cam csz clo chi)]) [0] (by decide) rfl
    have hKc := hK.sub (tys' := []) [] rfl
    refine kw_calli (wr := [(ad 21, eI 2 (ca 21) one), (ad 22, eI 2 (ca 22) any)]) (wf := [(ad 20, eM ad 1 inn oun man kno cho kep dep cam csz clo chi)]) (v := 1) (va_runV (As := [.int 1, .int 0]) (rest := []) ⟨hx, hb, hml, hown, hts⟩ (c_m_refuse1 l dC dI ad ca thr inn oun man kno cho kep dep cam csz clo chi 0 _) (cwV 2 hts (gd_V mw_581 mw_583 mw_21 mw_44 mw_584) rfl rfl rfl (by decide +kernel) ⟨Nat.le_of_ble_eq_true rfl, Nat.le_of_ble_eq_true rfl⟩) (kw_V (q0 := 0) (ci := 4) hKc hPc hDc rfl rfl) rfl rfl hl.1 rfl (lv_room (Nat.le_of_ble_eq_true rfl)) d_M_begin_25 ⟨Nat.zero_le _, Nat.zero_le _⟩) hP hD hS hA [0] [1, 2] rfl rfl (by decide) (by decide) (fun H locs hP hD hS => ?_)
    have hP : va_P (dC, dI) vC [(ad 21, eI 2 (ca 21) one), (ad 22, eI 2 (ca 22) any), (ad 20, eM ad 1 inn oun man kno cho kep dep cam csz clo chi)] H := hP
    have hD : va_D A [(ad 21, eI 2 (ca 21) one), (ad 22, eI 2 (ca 22) any), (ad 20, eM ad 1 inn oun man kno cho kep dep cam csz clo chi)] := hD
    refine lv_if_ne (tgt := 73) hx hb d_M_begin_28 (by decide) (fun _ => ?_) (fun h => absurd h (by decide))
    have e_1 : sel (mo_bg i1 o1) (0 : Int32) 1 = 1 := by first | exact sel_t (by unfold mo_bg; rw [c_7, c_16]; rfl) | exact sel_f (by unfold mo_bg; rw [c_7]; rfl) | exact sel_f (by unfold mo_bg; rw [c_7, c_16]; rfl)
    have e_2 : sel (mo_bg i1 o1) i1 inn = inn := by first | exact sel_t (by unfold mo_bg; rw [c_7, c_16]; rfl) | exact sel_f (by unfold mo_bg; rw [c_7]; rfl) | exact sel_f (by unfold mo_bg; rw [c_7, c_16]; rfl)
    have e_3 : sel (mo_bg i1 o1) o1 oun = oun := by first | exact sel_t (by unfold mo_bg; rw [c_7, c_16]; rfl) | exact sel_f (by unfold mo_bg; rw [c_7]; rfl) | exact sel_f (by unfold mo_bg; rw [c_7, c_16]; rfl)
    have e_4 : sel (mo_bg i1 o1) 0 kno = kno := by first | exact sel_t (by unfold mo_bg; rw [c_7, c_16]; rfl) | exact sel_f (by unfold mo_bg; rw [c_7]; rfl) | exact sel_f (by unfold mo_bg; rw [c_7, c_16]; rfl)
    have e_5 : sel (mo_bg i1 o1) (fo (mc_setf 0) 2 one) one = one := by first | exact sel_t (by unfold mo_bg; rw [c_7, c_16]; rfl) | exact sel_f (by unfold mo_bg; rw [c_7]; rfl) | exact sel_f (by unfold mo_bg; rw [c_7, c_16]; rfl)
    have e_6 : sel (mo_bg i1 o1) (fo (mc_setf 0) 2 any) any = any := by first | exact sel_t (by unfold mo_bg; rw [c_7, c_16]; rfl) | exact sel_f (by unfold mo_bg; rw [c_7]; rfl) | exact sel_f (by unfold mo_bg; rw [c_7, c_16]; rfl)
    exact W.vret hx hb hr (fun t ht hW => by (try rw [e_1]); (try rw [e_2]); (try rw [e_3]); (try rw [e_4]); (try rw [e_5]); (try rw [e_6]); exact kw_endv hP hD hK hS [2, 0, 1] rfl (by decide) rfl ht hW.alike) hS.2.2 d_M_begin_73
  · refine lv_iload_n hx hb d_M_begin_10 rfl (lv_at hl 2 rfl) ?_
    refine lv_iconst (v := 1) hx hb d_M_begin_11 (by decide) ?_
    refine lv_iconst (v := 2) hx hb d_M_begin_12 (by decide) ?_
    have hPc := hP.sub (ws' := []) [] rfl
    have hKc := hK.sub (tys' := []) [] rfl
    refine vp_callSi (W.runS (As := [.int o1, .int 1, .int 2]) (rest := [.ref (ad 20)]) ⟨hx, hb, hml, hown, hts⟩ (c_m_in l dC dI ad ca o1 1 2) (va_cwS 3 hts (gd_S mw_578 mw_579 mw_44 mw_580) rfl rfl rfl (by decide +kernel) ⟨Nat.le_of_ble_eq_true rfl, Nat.le_of_ble_eq_true rfl⟩) (kr_S hKc hPc) rfl rfl hl.1 rfl (lv_room (Nat.le_of_ble_eq_true rfl)) d_M_begin_13 ⟨Nat.zero_le _, Nat.zero_le _⟩) (fun r hq => ?_)
    subst hq
    refine k_bne (b := (!decide (o1 < 1) && !decide (2 < o1))) (tgt := 23) hx hb d_M_begin_16 (by decide) (fun c_16 => ?_) (fun c_16 => ?_)
    · refine lv_iconst (v := 0) hx hb d_M_begin_23 (by decide) ?_
      refine lv_iconst (v := 0) hx hb d_M_begin_24 (by decide) ?_
      have hPc := hP.sub (ws' := [(ad 20, eM ad thr inn oun man kno cho kep dep cam csz clo chi)]) [0] rfl
      have hDc := hD.sub (ws' := [(ad 20, eM ad thr inn oun man kno cho kep dep cam csz clo chi)]) [0] (by decide) rfl
      have hKc := hK.sub (tys' := []) [] rfl
      refine kw_calli (wr := [(ad 21, eI 2 (ca 21) one), (ad 22, eI 2 (ca 22) any)]) (wf := [(ad 20, eM ad 0 inn oun man kno cho kep dep cam csz clo chi)]) (v := 0) (va_runV (As := [.int 0, .int 0]) (rest := []) ⟨hx, hb, hml, hown, hts⟩ (c_m_refuse0 l dC dI ad ca thr inn oun man kno cho kep dep cam csz clo chi _) (cwV 2 hts (gd_V mw_581 mw_583 mw_21 mw_44 mw_584) rfl rfl rfl (by decide +kernel) ⟨Nat.le_of_ble_eq_true rfl, Nat.le_of_ble_eq_true rfl⟩) (kw_V (q0 := 0) (ci := 4) hKc hPc hDc rfl rfl) rfl rfl hl.1 rfl (lv_room (Nat.le_of_ble_eq_true rfl)) d_M_begin_25 ⟨Nat.zero_le _, Nat.zero_le _⟩) hP hD hS hA [0] [1, 2] rfl rfl (by decide) (by decide) (fun H locs hP hD hS => ?_)
      have hP : va_P (dC, dI) vC [(ad 21, eI 2 (ca 21) one), (ad 22, eI 2 (ca 22) any), (ad 20, eM ad 0 inn oun man kno cho kep dep cam csz clo chi)] H := hP
      have hD : va_D A [(ad 21, eI 2 (ca 21) one), (ad 22, eI 2 (ca 22) any), (ad 20, eM ad 0 inn oun man kno cho kep dep cam csz clo chi)] := hD
      refine lv_if_ne (tgt := 73) hx hb d_M_begin_28 (by decide) (fun h => absurd rfl h) (fun _ => ?_)
      refine lv_aload_n hx hb d_M_begin_31 rfl (lv_at hl 0 rfl) ?_
      refine lv_iload_n hx hb d_M_begin_32 rfl (lv_at hl 1 rfl) ?_
      refine va_put (D := (dC, dI)) (ci := 4) (v := .int i1) (ty := .int) (C := R_M) (T := F_M) (N := 33) hx hb hts (hin_of in_M) ft_M tk_M nm_M hown hK hP hD hS 2 rfl rfl 1 (by decide) (hw_of hts mw_470) (fun _ h9 => h9) rfl (by decide +kernel) rfl rfl (Nat.le_of_ble_eq_true rfl) d_M_begin_33 (fun H locs hP hD hS => ?_)
      have hP : va_P (dC, dI) vC [(ad 21, eI 2 (ca 21) one), (ad 22, eI 2 (ca 22) any), (ad 20, eM ad 0 i1 oun man kno cho kep dep cam csz clo chi)] H := hP
      have hD : va_D A [(ad 21, eI 2 (ca 21) one), (ad 22, eI 2 (ca 22) any), (ad 20, eM ad 0 i1 oun man kno cho kep dep cam csz clo chi)] := hD
      refine lv_aload_n hx hb d_M_begin_36 rfl (lv_at hl 0 rfl) ?_
      refine lv_iload_n hx hb d_M_begin_37 rfl (lv_at hl 2 rfl) ?_
      refine va_put (D := (dC, dI)) (ci := 4) (v := .int o1) (ty := .int) (C := R_M) (T := F_M) (N := 33) hx hb hts (hin_of in_M) ft_M tk_M nm_M hown hK hP hD hS 2 rfl rfl 2 (by decide) (hw_of hts mw_471) (fun _ h9 => h9) rfl (by decide +kernel) rfl rfl (Nat.le_of_ble_eq_true rfl) d_M_begin_38 (fun H locs hP hD hS => ?_)
      have hP : va_P (dC, dI) vC [(ad 21, eI 2 (ca 21) one), (ad 22, eI 2 (ca 22) any), (ad 20, eM ad 0 i1 o1 man kno cho kep dep cam csz clo chi)] H := hP
      have hD : va_D A [(ad 21, eI 2 (ca 21) one), (ad 22, eI 2 (ca 22) any), (ad 20, eM ad 0 i1 o1 man kno cho kep dep cam csz clo chi)] := hD
      refine lv_iconst (v := 0) hx hb d_M_begin_41 (by decide) ?_
      refine lv_istore_n (lv' := [(3, .int 0), (0, .ref (ad 20)), (1, .int i1), (2, .int o1)]) hx hb d_M_begin_42 rfl hl (by decide) rfl (fun ls hl => ?_)
      refine k_loopH (fun iv H locs ls => lv_has ls 4 [(0, .ref (ad 20)), (1, .int i1), (2, .int o1), (3, .int (nI iv))] ∧ va_P (dC, dI) vC [(ad 21, eI 2 (ca 21) (fo (mc_setf 0) iv one)), (ad 22, eI 2 (ca 22) (fo (mc_setf 0) iv any)), (ad 20, eM ad 0 i1 o1 man kno cho kep dep cam csz clo chi)] H ∧ va_D A [(ad 21, eI 2 (ca 21) (fo (mc_setf 0) iv one)), (ad 22, eI 2 (ca 22) (fo (mc_setf 0) iv any)), (ad 20, eM ad 0 i1 o1 man kno cho kep dep cam csz clo chi)] ∧ va_S A s.heap H locs ∧ True) 2 ?_ 0 _ _ _ (Nat.zero_le _) ?_
      · intro iv H locs ls hiiv hI ihiv
        obtain ⟨hl, hP, hD, hS, -⟩ := hI
        refine lv_iload_n hx hb d_M_begin_43 rfl (lv_at hl 3 rfl) ?_
        refine lv_iconst (v := 2) hx hb d_M_begin_44 (by decide) ?_
        refine k_ge (a := iv) (b := 2) (tgt := 68) hx hb rfl rfl (by omega) (by omega) d_M_begin_45 (by decide) (fun c_45 => ?_) (fun c_45 => ?_)
        · obtain rfl : 2 = iv := by omega
          refine lv_aload_n hx hb d_M_begin_68 rfl (lv_at hl 0 rfl) ?_
          refine lv_iconst (v := 0) hx hb d_M_begin_69 (by decide) ?_
          refine va_put (D := (dC, dI)) (ci := 4) (v := .int 0) (ty := .boolean) (C := R_M) (T := F_M) (N := 33) hx hb hts (hin_of in_M) ft_M tk_M nm_M hown hK hP hD hS 2 rfl rfl 11 (by decide) (hw_of hts mw_480) (fun _ h9 => h9) rfl (by decide +kernel) rfl rfl (Nat.le_of_ble_eq_true rfl) d_M_begin_70 (fun H locs hP hD hS => ?_)
          have hP : va_P (dC, dI) vC [(ad 21, eI 2 (ca 21) (fo (mc_setf 0) 2 one)), (ad 22, eI 2 (ca 22) (fo (mc_setf 0) 2 any)), (ad 20, eM ad 0 i1 o1 man 0 cho kep dep cam csz clo chi)] H := hP
          have hD : va_D A [(ad 21, eI 2 (ca 21) (fo (mc_setf 0) 2 one)), (ad 22, eI 2 (ca 22) (fo (mc_setf 0) 2 any)), (ad 20, eM ad 0 i1 o1 man 0 cho kep dep cam csz clo chi)] := hD
          have e_7 : sel (mo_bg i1 o1) (0 : Int32) 1 = 0 := by first | exact sel_t (by unfold mo_bg; rw [c_7, c_16]; rfl) | exact sel_f (by unfold mo_bg; rw [c_7]; rfl) | exact sel_f (by unfold mo_bg; rw [c_7, c_16]; rfl)
          have e_8 : sel (mo_bg i1 o1) i1 inn = i1 := by first | exact sel_t (by unfold mo_bg; rw [c_7, c_16]; rfl) | exact sel_f (by unfold mo_bg; rw [c_7]; rfl) | exact sel_f (by unfold mo_bg; rw [c_7, c_16]; rfl)
          have e_9 : sel (mo_bg i1 o1) o1 oun = o1 := by first | exact sel_t (by unfold mo_bg; rw [c_7, c_16]; rfl) | exact sel_f (by unfold mo_bg; rw [c_7]; rfl) | exact sel_f (by unfold mo_bg; rw [c_7, c_16]; rfl)
          have e_10 : sel (mo_bg i1 o1) 0 kno = 0 := by first | exact sel_t (by unfold mo_bg; rw [c_7, c_16]; rfl) | exact sel_f (by unfold mo_bg; rw [c_7]; rfl) | exact sel_f (by unfold mo_bg; rw [c_7, c_16]; rfl)
          have e_11 : sel (mo_bg i1 o1) (fo (mc_setf 0) 2 one) one = fo (mc_setf 0) 2 one := by first | exact sel_t (by unfold mo_bg; rw [c_7, c_16]; rfl) | exact sel_f (by unfold mo_bg; rw [c_7]; rfl) | exact sel_f (by unfold mo_bg; rw [c_7, c_16]; rfl)
          have e_12 : sel (mo_bg i1 o1) (fo (mc_setf 0) 2 any) any = fo (mc_setf 0) 2 any := by first | exact sel_t (by unfold mo_bg; rw [c_7, c_16]; rfl) | exact sel_f (by unfold mo_bg; rw [c_7]; rfl) | exact sel_f (by unfold mo_bg; rw [c_7, c_16]; rfl)
          exact W.vret hx hb hr (fun t ht hW => by (try rw [e_7]); (try rw [e_8]); (try rw [e_9]); (try rw [e_10]); (try rw [e_11]); (try rw [e_12]); exact kw_endv hP hD hK hS [2, 0, 1] rfl (by decide) rfl ht hW.alike) hS.2.2 d_M_begin_73
        · refine lv_aload_n hx hb d_M_begin_48 rfl (lv_at hl 0 rfl) ?_
          refine va_get (D := (dC, dI)) (ci := 4) (v := .ref (ad 21)) (C := R_M) (T := F_M) (N := 33) hx hb hts (hin_of in_M) hown hK hP 2 rfl rfl 3 (by decide) (hw_of hts mw_472) (fun _ h9 => h9) rfl d_M_begin_49 ?_
          refine lv_iload_n hx hb d_M_begin_52 rfl (lv_at hl 3 rfl) ?_
          refine lv_iconst (v := 0) hx hb d_M_begin_53 (by decide) ?_
          refine k_iast (k := iv) hx hb hK hP hD hS 0 0 rfl rfl rfl (by omega) (by decide) d_M_begin_54 (fun H locs hP hD hS => ?_)
          have hP : va_P (dC, dI) vC [(ad 21, eI 2 (ca 21) (upd (fo (mc_setf 0) iv one) iv 0)), (ad 22, eI 2 (ca 22) (fo (mc_setf 0) iv any)), (ad 20, eM ad 0 i1 o1 man kno cho kep dep cam csz clo chi)] H := hP
          have hD : va_D A [(ad 21, eI 2 (ca 21) (upd (fo (mc_setf 0) iv one) iv 0)), (ad 22, eI 2 (ca 22) (fo (mc_setf 0) iv any)), (ad 20, eM ad 0 i1 o1 man kno cho kep dep cam csz clo chi)] := hD
          refine lv_aload_n hx hb d_M_begin_55 rfl (lv_at hl 0 rfl) ?_
          refine va_get (D := (dC, dI)) (ci := 4) (v := .ref (ad 22)) (C := R_M) (T := F_M) (N := 33) hx hb hts (hin_of in_M) hown hK hP 2 rfl rfl 4 (by decide) (hw_of hts mw_473) (fun _ h9 => h9) rfl d_M_begin_56 ?_
          refine lv_iload_n hx hb d_M_begin_59 rfl (lv_at hl 3 rfl) ?_
          refine lv_iconst (v := 0) hx hb d_M_begin_60 (by decide) ?_
          refine k_iast (k := iv) hx hb hK hP hD hS 1 1 rfl rfl rfl (by omega) (by decide) d_M_begin_61 (fun H locs hP hD hS => ?_)
          have hP : va_P (dC, dI) vC [(ad 21, eI 2 (ca 21) (upd (fo (mc_setf 0) iv one) iv 0)), (ad 22, eI 2 (ca 22) (upd (fo (mc_setf 0) iv any) iv 0)), (ad 20, eM ad 0 i1 o1 man kno cho kep dep cam csz clo chi)] H := hP
          have hD : va_D A [(ad 21, eI 2 (ca 21) (upd (fo (mc_setf 0) iv one) iv 0)), (ad 22, eI 2 (ca 22) (upd (fo (mc_setf 0) iv any) iv 0)), (ad 20, eM ad 0 i1 o1 man kno cho kep dep cam csz clo chi)] := hD
          refine lv_iinc (v := nI (iv + 1)) (lv' := [(3, .int (nI (iv + 1))), (0, .ref (ad 20)), (1, .int i1), (2, .int o1)]) hx hb d_M_begin_62 hl (k := 3) rfl (k_inc _) (by decide) rfl (fun ls hl => ?_)
          refine lv_goto (tgt := 43) hx hb d_M_begin_65 (by decide) ?_
          refine ihiv _ _ _ (by omega) ?_
          have e_13 : fo (mc_setf 0) (iv + 1) one = upd (fo (mc_setf 0) iv one) iv 0 := rfl
          have e_14 : fo (mc_setf 0) (iv + 1) any = upd (fo (mc_setf 0) iv any) iv 0 := rfl
          exact ⟨by (try rw [e_13]); (try rw [e_14]); exact lv_sub hl [1, 2, 3, 0] rfl, by (try rw [e_13]); (try rw [e_14]); exact hP, by (try rw [e_13]); (try rw [e_14]); exact hD, hS, trivial⟩
      · have hdone : True := trivial
        have e_15 : nI 0 = 0 := rfl
        have e_16 : fo (mc_setf 0) 0 one = one := rfl
        have e_17 : fo (mc_setf 0) 0 any = any := rfl
        exact ⟨by (try rw [e_15]); (try rw [e_16]); (try rw [e_17]); exact lv_sub hl [1, 2, 3, 0] rfl, by (try rw [e_15]); (try rw [e_16]); (try rw [e_17]); exact hP, by (try rw [e_15]); (try rw [e_16]); (try rw [e_17]); exact hD, hS, trivial⟩
    · refine lv_iconst (v := 1) hx hb d_M_begin_19 (by decide) ?_
      refine lv_goto (tgt := 24) hx hb d_M_begin_20 (by decide) ?_
      refine lv_iconst (v := 0) hx hb d_M_begin_24 (by decide) ?_
      have hPc := hP.sub (ws' := [(ad 20, eM ad thr inn oun man kno cho kep dep cam csz clo chi)]) [0] rfl
      have hDc := hD.sub (ws' := [(ad 20, eM ad thr inn oun man kno cho kep dep cam csz clo chi)]) [0] (by decide) rfl
      have hKc := hK.sub (tys' := []) [] rfl
      refine kw_calli (wr := [(ad 21, eI 2 (ca 21) one), (ad 22, eI 2 (ca 22) any)]) (wf := [(ad 20, eM ad 1 inn oun man kno cho kep dep cam csz clo chi)]) (v := 1) (va_runV (As := [.int 1, .int 0]) (rest := []) ⟨hx, hb, hml, hown, hts⟩ (c_m_refuse1 l dC dI ad ca thr inn oun man kno cho kep dep cam csz clo chi 0 _) (cwV 2 hts (gd_V mw_581 mw_583 mw_21 mw_44 mw_584) rfl rfl rfl (by decide +kernel) ⟨Nat.le_of_ble_eq_true rfl, Nat.le_of_ble_eq_true rfl⟩) (kw_V (q0 := 0) (ci := 4) hKc hPc hDc rfl rfl) rfl rfl hl.1 rfl (lv_room (Nat.le_of_ble_eq_true rfl)) d_M_begin_25 ⟨Nat.zero_le _, Nat.zero_le _⟩) hP hD hS hA [0] [1, 2] rfl rfl (by decide) (by decide) (fun H locs hP hD hS => ?_)
      have hP : va_P (dC, dI) vC [(ad 21, eI 2 (ca 21) one), (ad 22, eI 2 (ca 22) any), (ad 20, eM ad 1 inn oun man kno cho kep dep cam csz clo chi)] H := hP
      have hD : va_D A [(ad 21, eI 2 (ca 21) one), (ad 22, eI 2 (ca 22) any), (ad 20, eM ad 1 inn oun man kno cho kep dep cam csz clo chi)] := hD
      refine lv_if_ne (tgt := 73) hx hb d_M_begin_28 (by decide) (fun _ => ?_) (fun h => absurd h (by decide))
      have e_18 : sel (mo_bg i1 o1) (0 : Int32) 1 = 1 := by first | exact sel_t (by unfold mo_bg; rw [c_7, c_16]; rfl) | exact sel_f (by unfold mo_bg; rw [c_7]; rfl) | exact sel_f (by unfold mo_bg; rw [c_7, c_16]; rfl)
      have e_19 : sel (mo_bg i1 o1) i1 inn = inn := by first | exact sel_t (by unfold mo_bg; rw [c_7, c_16]; rfl) | exact sel_f (by unfold mo_bg; rw [c_7]; rfl) | exact sel_f (by unfold mo_bg; rw [c_7, c_16]; rfl)
      have e_20 : sel (mo_bg i1 o1) o1 oun = oun := by first | exact sel_t (by unfold mo_bg; rw [c_7, c_16]; rfl) | exact sel_f (by unfold mo_bg; rw [c_7]; rfl) | exact sel_f (by unfold mo_bg; rw [c_7, c_16]; rfl)
      have e_21 : sel (mo_bg i1 o1) 0 kno = kno := by first | exact sel_t (by unfold mo_bg; rw [c_7, c_16]; rfl) | exact sel_f (by unfold mo_bg; rw [c_7]; rfl) | exact sel_f (by unfold mo_bg; rw [c_7, c_16]; rfl)
      have e_22 : sel (mo_bg i1 o1) (fo (mc_setf 0) 2 one) one = one := by first | exact sel_t (by unfold mo_bg; rw [c_7, c_16]; rfl) | exact sel_f (by unfold mo_bg; rw [c_7]; rfl) | exact sel_f (by unfold mo_bg; rw [c_7, c_16]; rfl)
      have e_23 : sel (mo_bg i1 o1) (fo (mc_setf 0) 2 any) any = any := by first | exact sel_t (by unfold mo_bg; rw [c_7, c_16]; rfl) | exact sel_f (by unfold mo_bg; rw [c_7]; rfl) | exact sel_f (by unfold mo_bg; rw [c_7, c_16]; rfl)
      exact W.vret hx hb hr (fun t ht hW => by (try rw [e_18]); (try rw [e_19]); (try rw [e_20]); (try rw [e_21]); (try rw [e_22]); (try rw [e_23]); exact kw_endv hP hD hK hS [2, 0, 1] rfl (by decide) rfl ht hW.alike) hS.2.2 d_M_begin_73
