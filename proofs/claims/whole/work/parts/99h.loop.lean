/-! the law's loop -/
theorem k_next (iv : Nat) : nI (4 * iv) + 4 = nI (4 * (iv + 1)) := by
  rw [show (4 : Int32) = nI 4 from rfl, nI_add]
  rfl
set_option maxHeartbeats 4000000 in
set_option maxRecDepth 100000 in
theorem law_loop {p : Program} {l : Launch} {e : Env} {s : State} {m : MethodId} {below : List Frame} {meth : Method} {c : Code} {b L : Nat} {xs : Nat → Int32} {dC : Nat → ClassId} {dI : Nat → Nat → Nat} {ad : Nat → Nat} {ca : Nat → ClassId} {tP tI : Nat} {sa : Nat → Nat} (C0 : lw_C p l s m c b L xs dC dI ca tP tI sa) (hr : meth.sig.returnType = ret) (hlocks : meth.locks = false) {c0 s0 : Nat} (hc0 : c0 ≤ 500000) (hs0 : s0 ≤ 7000000) :
    ∀ (d iv : Nat), L < 4 * (iv + d) + 4 → 4 * iv ≤ L → ∀ (nn mo : Nat) (ga se : Int32) (one zer : Nat → Int32) (tb : TB) (sb : SB) (on1 any1 : Nat → Int32) (r : RT) (thr : Int32) (ou : Nat → Int64), Rel nn mo ga se one zer tb sb on1 any1 r → ∀ (H : Heap) (locs : List Loc) (cells slots : Nat) (ls : Array Slot), va_P (dC, dI) vC (lw_w ad ca nn mo ga se one zer tb sb on1 any1 r thr ou) H → va_D (lw_A s) (lw_w ad ca nn mo ga se one zer tb sb on1 any1 r thr ou) → va_S (lw_A s) s.heap H locs → cells ≤ c0 + iv → slots ≤ s0 + 6 * iv → lv_has ls 7 [(4, .int (nI (4 * iv))), (3, .ref (ad 50)), (2, .ref (ad 20)), (1, .ref (ad 0)), (0, .ref b)] → W p l e room_1 s m #[Value.ref b] below meth c H locs cells slots (lw_Z below #[Value.ref b] s) (F0 m 23 ls []) := by
  have hC := C0
  obtain ⟨hx, hb, hml, hown, hts, hXs, hbl, hK, hX, hO, hss, htr, hL⟩ := hC
  have hbA : ¬ lw_A s b := Nat.not_le.mpr hbl
  have hL31 : L < 2 ^ 31 := by omega
  intro d
  induction d with
  | zero =>
    intro iv hd hle nn mo ga se one zer tb sb on1 any1 r thr ou hrel H locs cells slots ls hP hD hS hce hsl hl
    refine lv_iload hx hb d_L_law_23 (lv_at hl 0 rfl) ?_
    refine lv_aload_n hx hb d_L_law_25 rfl (lv_at hl 4 rfl) ?_
    refine va_slen hx hb hXs hbl hbA hS d_L_law_26 ?_
    refine lv_iconst (v := 4) hx hb d_L_law_27 (by decide) ?_
    refine lv_isub hx hb d_L_law_28 ?_
    refine lv_icmp_gt (tgt := 465) hx hb d_L_law_29 (by decide) (fun c_29 => ?_) (fun c_29 => absurd ((icmp_L hL (by omega)).mpr (by omega)) c_29)
    refine lv_iconst (v := 1) hx hb d_L_law_465 (by decide) ?_
    refine va_forget (fun q hq => hS.2.2 q hq) ?_
    refine W.widen (k := 601024) (n := 7293034) (by omega) (by omega) ?_
    exact lw_ret hx hb hr hlocks d_L_law_466
  | succ d ih =>
    intro iv hd hle nn mo ga se one zer tb sb on1 any1 r thr ou hrel H locs cells slots ls hP hD hS hce hsl hl
    refine lv_iload hx hb d_L_law_23 (lv_at hl 0 rfl) ?_
    refine lv_aload_n hx hb d_L_law_25 rfl (lv_at hl 4 rfl) ?_
    refine va_slen hx hb hXs hbl hbA hS d_L_law_26 ?_
    refine lv_iconst (v := 4) hx hb d_L_law_27 (by decide) ?_
    refine lv_isub hx hb d_L_law_28 ?_
    refine lv_icmp_gt (tgt := 465) hx hb d_L_law_29 (by decide) (fun c_29 => ?_) (fun c_29 => ?_)
    · refine lv_iconst (v := 1) hx hb d_L_law_465 (by decide) ?_
      refine va_forget (fun q hq => hS.2.2 q hq) ?_
      refine W.widen (k := 601024) (n := 7293034) (by omega) (by omega) ?_
      exact lw_ret hx hb hr hlocks d_L_law_466
    · have hiv : 4 * iv + 4 ≤ L := Nat.le_of_not_lt fun z => c_29 ((icmp_L hL (by omega)).mpr z)
      have hce1 : cells + 1 ≤ 601024 := by omega
      have hsl1 : slots + 6 ≤ 7293034 := by omega
      have kk : lw_K p l e s m below meth c b dC dI ad ca cells slots iv := by
        intro nn mo ga se one zer tb sb on1 any1 r thr ou hrel H locs cells1 slots1 ls hP hD hS hc1 hs1 hl
        refine lv_iinc (v := nI (4 * (iv + 1))) (lv' := [(4, .int (nI (4 * (iv + 1)))), (3, .ref (ad 50)), (2, .ref (ad 20)), (1, .ref (ad 0)), (0, .ref b)]) hx hb d_L_law_459 hl (k := 0) rfl (k_next iv) (by decide) rfl (fun ls hl => ?_)
        refine lv_goto (tgt := 23) hx hb d_L_law_462 (by decide) ?_
        exact ih (iv + 1) (by omega) (by omega) nn mo ga se one zer tb sb on1 any1 r thr ou hrel H locs cells1 slots1 ls hP hD hS (by omega) (by omega) hl
      obtain ⟨v, hv, ev⟩ := and_15 (xs (4 * iv))
      refine lv_aload_n hx hb d_L_law_32 rfl (lv_at hl 4 rfl) ?_
      refine lv_iload hx hb d_L_law_33 (lv_at hl 0 rfl) ?_
      refine k_sld (k := 4 * iv) hx hb hXs hbl hbA hS rfl (by omega) hL31 rfl d_L_law_35 ?_
      refine lv_bipush (v := 15) hx hb d_L_law_36 (by decide) ?_
      refine lv_iand hx hb d_L_law_38 ?_
      rw [ev]
      have hKK := kk nn mo ga se one zer tb sb on1 any1 r thr ou hrel H locs cells slots ls hP hD hS (by omega) (by omega) hl
      rcases (show v = 0 ∨ v = 1 ∨ v = 2 ∨ v = 3 ∨ v = 4 ∨ v = 5 ∨ v = 6 ∨ v = 7 ∨ v = 8 ∨ v = 9 ∨ v = 10 ∨ v = 11 ∨ v = 12 ∨ v = 13 ∨ v = 14 ∨ v = 15 by omega) with rfl | rfl | rfl | rfl | rfl | rfl | rfl | rfl | rfl | rfl | rfl | rfl | rfl | rfl | rfl | rfl
      · refine lv_tableIn (tgt := 88) hx hb d_L_law_39 (by decide) (by decide) rfl (by decide) ?_
        by_cases hbg : mo_bg (xs (4 * iv + 1)) (xs (4 * iv + 2)) = true
        · have hq := (bg_iff _ _).mp hbg
          have hb1 : ¬ xs (4 * iv + 1) < 1 := fun z => hq (Or.inl z)
          have hb2 : xs (4 * iv + 1) ≤ 4 := Classical.byContradiction fun z => hq (Or.inr (Or.inl z))
          have hb3 : ¬ xs (4 * iv + 2) < 1 := fun z => hq (Or.inr (Or.inr (Or.inl z)))
          have hb4 : xs (4 * iv + 2) ≤ 2 := Classical.byContradiction fun z => hq (Or.inr (Or.inr (Or.inr z)))
          obtain ⟨n2, k1, k2, k3⟩ := small_of (k := 4) (by decide) hb1 hb2
          obtain ⟨m2, k4, k5, k6⟩ := small_of (k := 2) (by decide) hb3 hb4
          rw [k3] at hb1 hb2
          rw [k6] at hb3 hb4
          rw [k3, k6] at hbg
          exact lc_begin C0 hrel hiv hP hD hS hce1 hsl1 hl kk ⟨k1, k2⟩ ⟨k4, k5⟩ hb1 hb2 hb3 hb4 hbg k3 k6
        · have hq : xs (4 * iv + 1) < 1 ∨ ¬ xs (4 * iv + 1) ≤ 4 ∨ xs (4 * iv + 2) < 1 ∨ ¬ xs (4 * iv + 2) ≤ 2 := Classical.byContradiction fun z => hbg ((bg_iff _ _).mpr z)
          exact lc_begin_x C0 hrel hiv hP hD hS hce1 hsl1 hl kk hq (Bool.eq_false_iff.mpr hbg)
      · refine lv_tableIn (tgt := 136) hx hb d_L_law_39 (by decide) (by decide) rfl (by decide) ?_
        by_cases h1 : InN mo (xs (4 * iv + 1))
        · obtain ⟨j, hj, ej⟩ := h1
          by_cases h2 : SetIn nn (xs (4 * iv + 2)) (xs (4 * iv + 3))
          · exact lc_set C0 hrel hiv hP hD hS hce1 hsl1 hl kk hj h2 ej
          · exact lc_set_x C0 hrel hiv hP hD hS hce1 hsl1 hl kk hj h2 ej
        · exact lc_set_o C0 hrel hiv hP hD hS hce1 hsl1 hl kk h1
      · refine lv_tableIn (tgt := 196) hx hb d_L_law_39 (by decide) (by decide) rfl (by decide) ?_
        exact lc_candidates C0 hrel hiv hP hD hS hce1 hsl1 hl kk
      · refine lv_tableIn (tgt := 209) hx hb d_L_law_39 (by decide) (by decide) rfl (by decide) ?_
        by_cases h1 : InN (m_gath ga nn mo one zer prI prS tb).1 (xs (4 * iv + 1))
        · obtain ⟨k, hk, ek⟩ := h1
          by_cases h2 : InN 5 (xs (4 * iv + 2))
          · obtain ⟨j, hj, ej⟩ := h2
            rcases (show j = 0 ∨ j = 1 ∨ j = 2 ∨ j = 3 ∨ j = 4 by omega) with rfl | rfl | rfl | rfl | rfl
            · exact lc_cand0 C0 hrel hiv hP hD hS hce1 hsl1 hl kk hk ek ej
            · exact lc_cand1 C0 hrel hiv hP hD hS hce1 hsl1 hl kk hk ek ej
            · exact lc_cand2 C0 hrel hiv hP hD hS hce1 hsl1 hl kk hk ek ej
            · exact lc_cand3 C0 hrel hiv hP hD hS hce1 hsl1 hl kk hk ek ej
            · exact lc_cand4 C0 hrel hiv hP hD hS hce1 hsl1 hl kk hk ek ej
          · exact lc_cand_x C0 hrel hiv hP hD hS hce1 hsl1 hl kk hk h2 ek
        · exact lc_cand_o C0 hrel hiv hP hD hS hce1 hsl1 hl kk h1
      · refine lv_tableIn (tgt := 277) hx hb d_L_law_39 (by decide) (by decide) rfl (by decide) ?_
        exact lc_least C0 hrel hiv hP hD hS hce1 hsl1 hl kk
      · refine lv_tableIn (tgt := 290) hx hb d_L_law_39 (by decide) (by decide) rfl (by decide) ?_
        exact lc_parts C0 hrel hiv hP hD hS hce1 hsl1 hl kk
      · refine lv_tableIn (tgt := 303) hx hb d_L_law_39 (by decide) (by decide) rfl (by decide) ?_
        by_cases h1 : InN (m_solv se (m_gath ga nn mo one zer prI prS tb) sb).2.1 (xs (4 * iv + 1))
        · obtain ⟨k, hk, ek⟩ := h1
          exact lc_chosen C0 hrel hiv hP hD hS hce1 hsl1 hl kk hk ek
        · exact lc_chosen_o C0 hrel hiv hP hD hS hce1 hsl1 hl kk h1
      · refine lv_tableIn (tgt := 359) hx hb d_L_law_39 (by decide) (by decide) rfl (by decide) ?_
        by_cases h1 : InN mo (xs (4 * iv + 1))
        · obtain ⟨j, hj, ej⟩ := h1
          by_cases h2 : InN (2 ^ nn) (xs (4 * iv + 2))
          · obtain ⟨k, hk, ek⟩ := h2
            exact lc_value C0 hrel hiv hP hD hS hce1 hsl1 hl kk hj hk ej ek
          · exact lc_value_x C0 hrel hiv hP hD hS hce1 hsl1 hl kk hj h2 ej
        · exact lc_value_o C0 hrel hiv hP hD hS hce1 hsl1 hl kk h1
      · refine lv_tableIn (tgt := 434) hx hb d_L_law_39 (by decide) (by decide) rfl (by decide) ?_
        exact lc_thinned C0 hrel hiv hP hD hS hce1 hsl1 hl kk
      · exact lv_tableOut (tgt := 459) hx hb d_L_law_39 (by decide) (by decide) hKK
      · exact lv_tableOut (tgt := 459) hx hb d_L_law_39 (by decide) (by decide) hKK
      · exact lv_tableOut (tgt := 459) hx hb d_L_law_39 (by decide) (by decide) hKK
      · exact lv_tableOut (tgt := 459) hx hb d_L_law_39 (by decide) (by decide) hKK
      · exact lv_tableOut (tgt := 459) hx hb d_L_law_39 (by decide) (by decide) hKK
      · exact lv_tableOut (tgt := 459) hx hb d_L_law_39 (by decide) (by decide) hKK
      · exact lv_tableOut (tgt := 459) hx hb d_L_law_39 (by decide) (by decide) hKK
