/-! a frame of the reference's search, from its start to its end -/
section RUN
variable {mn : Nat} {cov pa : Nat → Int32} {pn : Nat → Nat}
/-- what a step asks of a state -/
def StepOK (mn k0 pq rn : Nat) (ms : MS) : Prop := k0 ≤ mn ∧ (¬ ms.2.2.2.1 = 0 → 1 ≤ k0) ∧ ms.2.1.2.2.1 (ms.2.2.1 - 1) = nI k0 ∧ pq < 32 ∧ ms.2.1.2.1 (ms.2.2.1 - 1) = nI pq ∧ 1 ≤ rn ∧ rn ≤ 40 ∧ ms.2.1.2.2.2.1 (ms.2.2.1 - 1) = nI rn ∧ 1 ≤ ms.2.2.1 ∧ ms.2.2.1 < 40 ∧ (∃ a, a < 65536 ∧ ms.1.1 a = 0) ∧ ms.1.2.2.2.2.2.2 ≤ 32768
/-- the frames below D are the same -/
def Same (D : Nat) (ms ms' : MS) : Prop := ∀ j, j < D → ms'.2.1.1 j = ms.2.1.1 j ∧ ms'.2.1.2.1 j = ms.2.1.2.1 j ∧ ms'.2.1.2.2.1 j = ms.2.1.2.2.1 j ∧ ms'.2.1.2.2.2.1 j = ms.2.1.2.2.2.1 j ∧ ms'.2.1.2.2.2.2.1 j = ms.2.1.2.2.2.2.1 j ∧ ms'.2.1.2.2.2.2.2.1 j = ms.2.1.2.2.2.2.2.1 j ∧ ms'.2.1.2.2.2.2.2.2 j = ms.2.1.2.2.2.2.2.2 j
theorem same_tr {D : Nat} {a b c : MS} (h1 : Same D a b) (h2 : Same D b c) : Same D a c := fun j hj => by
  obtain ⟨p1, p2, p3, p4, p5, p6, p7⟩ := h1 j hj
  obtain ⟨q1, q2, q3, q4, q5, q6, q7⟩ := h2 j hj
  exact ⟨q1.trans p1, q2.trans p2, q3.trans p3, q4.trans p4, q5.trans p5, q6.trans p6, q7.trans p7⟩
/-- the frame D is done, its answer has come -/
def Popped (mn : Nat) (cov : Nat → Int32) (pn : Nat → Nat) (D : Nat) (lf : Int32) (rn : Nat) (ms ms' : MS) : Prop := ms'.2.2.1 = D ∧ ms'.2.2.2.1 = 1 ∧ Bst mn pn (Cvn mn cov lf rn) ms'.2.2.2.2.1 ms'.2.2.2.2.2.1 ms'.2.2.2.2.2.2 ∧ Memo mn cov pn ms'.1 ∧ Same D ms ms'
/-- the frame D stands on top, with the candidates below k0 looked at -/
def TopOK (mn : Nat) (cov pa : Nat → Int32) (pn : Nat → Nat) (D : Nat) (lf : Int32) (rn pq k0 : Nat) (ms : MS) : Prop :=
  ms.2.2.1 = D + 1 ∧ ms.2.1.1 D = lf ∧ ms.2.1.2.1 D = nI pq ∧ ms.2.1.2.2.1 D = nI k0 ∧ ms.2.1.2.2.2.1 D = nI rn ∧ pq < 32 ∧ ib lf pq = true ∧ k0 ≤ mn ∧ (¬ ms.2.2.2.1 = 0 → 1 ≤ k0) ∧ 1 ≤ rn ∧ D + rn ≤ 32 ∧ Memo mn cov pn ms.1 ∧ Tight mn cov lf rn ∧ Bst mn pn (Fr mn cov lf rn pq k0) ((mw_b1 pa k0 ms).1 D) ((mw_b1 pa k0 ms).2.1 D) ((mw_b1 pa k0 ms).2.2 D)
theorem bet_ne {bz : Nat → Int32} {bl bh : Nat → Int64} {d k j : Nat} {z : Int32} {lo hi : Int64} (h : j ≠ d) : (mo_bet pa bz bl bh d k z lo hi).1 j = bz j ∧ (mo_bet pa bz bl bh d k z lo hi).2.1 j = bl j ∧ (mo_bet pa bz bl bh d k z lo hi).2.2 j = bh j := by
  cases hb : mo_bis pa bz bl bh d k z lo hi with
  | true => rw [mo_bet_t hb]; exact ⟨pk_un h, pk_uLn h, pk_uLn h⟩
  | false => rw [mo_bet_f hb]; exact ⟨rfl, rfl, rfl⟩
theorem b1_ne {k0 j : Nat} {ms : MS} (h : j ≠ ms.2.2.1 - 1) : (mw_b1 pa k0 ms).1 j = ms.2.1.2.2.2.2.1 j ∧ (mw_b1 pa k0 ms).2.1 j = ms.2.1.2.2.2.2.2.1 j ∧ (mw_b1 pa k0 ms).2.2 j = ms.2.1.2.2.2.2.2.2 j := by
  by_cases hc : ms.2.2.2.1 = 0
  · rw [mw_b1_t hc]; exact ⟨rfl, rfl, rfl⟩
  · rw [mw_b1_f hc]; exact bet_ne h
/-- a frame that goes on -/
theorem top_on {D K : Nat} {lf : Int32} {rn pq k0 : Nat} {ms : MS} {b : (Nat → Int32) × (Nat → Int64) × (Nat → Int64)} (T : TopOK mn cov pa pn D lf rn pq k0 ms) (hK : K < mn) (hb : Bst mn pn (Fr mn cov lf rn pq (K + 1)) (b.1 D) (b.2.1 D) (b.2.2 D)) (hs : ∀ j, j < D → b.1 j = ms.2.1.2.2.2.2.1 j ∧ b.2.1 j = ms.2.1.2.2.2.2.2.1 j ∧ b.2.2 j = ms.2.1.2.2.2.2.2.2 j) : TopOK mn cov pa pn D lf rn pq (K + 1) (mw_on b K ms) ∧ Same D ms (mw_on b K ms) := by
  obtain ⟨t1, t2, t3, t4, t5, t6, t7, t8, t9, t10, t11, t12, t13, -⟩ := T
  have hd : ms.2.2.1 - 1 = D := by omega
  refine ⟨⟨t1, t2, t3, ?_, t5, t6, t7, by omega, fun h => absurd rfl h, t10, t11, t12, t13, ?_⟩, fun j hj => ?_⟩
  · show upd ms.2.1.2.2.1 (ms.2.2.1 - 1) (nI (K + 1)) D = nI (K + 1)
    rw [hd]; exact pk_us
  · rw [mw_b1_t (ms := mw_on b K ms) rfl]; exact hb
  · obtain ⟨a1, a2, a3⟩ := hs j hj
    refine ⟨rfl, rfl, ?_, rfl, a1, a2, a3⟩
    show upd ms.2.1.2.2.1 (ms.2.2.1 - 1) (nI (K + 1)) j = _
    rw [hd]; exact pk_un (by omega)
theorem nx_facts {pq k0 : Nat} (hk : k0 ≤ mn) : k0 ≤ mo_nx cov pq mn k0 ∧ mo_nx cov pq mn k0 ≤ mn ∧ (∀ k, k0 ≤ k → k < mo_nx cov pq mn k0 → ib (cov k) pq = false) ∧ (mo_nx cov pq mn k0 < mn → ib (cov (mo_nx cov pq mn k0)) pq = true) := by
  have h1 := fi_le (mo_px cov pq k0) (mn - k0)
  unfold mo_nx
  refine ⟨by omega, by omega, fun k h2 h3 => ?_, fun h2 => ?_⟩
  · have := fi_no (mo_px cov pq k0) (mn - k0) (k - k0) (by omega)
    unfold mo_px at this
    rw [show k0 + (k - k0) = k by omega] at this
    exact this
  · exact fi_yes (mo_px cov pq k0) (mn - k0) (by omega)
set_option maxHeartbeats 2000000 in
theorem run_frame (hm : mn ≤ 81) (hp : ∀ j, j < mn → pa j = nI (pn j) ∧ pn j ≤ 4) (Hd : MS → Prop) (step : ∀ (ms : MS) (k0 pq rn : Nat), StepOK mn k0 pq rn ms → Hd (mo_work mn cov pa k0 pq rn ms) → Hd ms) :
    ∀ (rn D : Nat) (lf : Int32) (pq k0 : Nat) (ms : MS), TopOK mn cov pa pn D lf rn pq k0 ms → (∀ ms', Popped mn cov pn D lf rn ms ms' → Hd ms') → Hd ms := by
  intro rn
  induction rn with
  | zero => intro D lf pq k0 ms T; have := T.2.2.2.2.2.2.2.2.2.1; omega
  | succ r ihr =>
    intro D lf pq
    have inner : ∀ (n k0 : Nat) (ms : MS), mn - k0 < n → TopOK mn cov pa pn D lf (r + 1) pq k0 ms → (∀ ms', Popped mn cov pn D lf (r + 1) ms ms' → Hd ms') → Hd ms := by
      intro n
      induction n with
      | zero => intro k0 ms h; omega
      | succ n ihn =>
        intro k0 ms hn T K
        obtain ⟨t1, t2, t3, t4, t5, t6, t7, t8, t9, t10, t11, t12, t13, t14⟩ := id T
        have hd : ms.2.2.1 - 1 = D := by omega
        obtain ⟨x1, x2, x3, x4⟩ := nx_facts (cov := cov) (pq := pq) t8
        refine step ms k0 pq (r + 1) ⟨t8, t9, by rw [hd]; exact t4, t6, by rw [hd]; exact t3, t10, by omega, by rw [hd]; exact t5, by omega, by omega, memo_free t12, t12.2.2⟩ ?_
        have hb1 := bst_skip x1 x3 t14
        have hbs : ∀ j, j < D → (mw_b1 pa k0 ms).1 j = ms.2.1.2.2.2.2.1 j ∧ (mw_b1 pa k0 ms).2.1 j = ms.2.1.2.2.2.2.2.1 j ∧ (mw_b1 pa k0 ms).2.2 j = ms.2.1.2.2.2.2.2.2 j := fun j hj => b1_ne (by omega)
        by_cases hK : mo_nx cov pq mn k0 = mn
        · rw [mo_work_p hK]
          rw [hK] at hb1
          have hall := bst_all t6 t7 hb1
          apply K
          refine ⟨by show ms.2.2.1 - 1 = D; omega, rfl, ?_, ?_, fun j hj => ?_⟩
          · show Bst mn pn _ ((mw_b1 pa k0 ms).1 (ms.2.2.1 - 1)) ((mw_b1 pa k0 ms).2.1 (ms.2.2.1 - 1)) ((mw_b1 pa k0 ms).2.2 (ms.2.2.1 - 1))
            rw [hd]; exact hall
          · show Memo mn cov pn (mo_keep (ms.2.1.1 (ms.2.2.1 - 1)) (ms.2.1.2.2.2.1 (ms.2.2.1 - 1)) ((mw_b1 pa k0 ms).1 (ms.2.2.1 - 1)) ((mw_b1 pa k0 ms).2.1 (ms.2.2.1 - 1)) ((mw_b1 pa k0 ms).2.2 (ms.2.2.1 - 1)) ms.1)
            rw [hd, t2, t5]
            exact memo_keep t12 (by omega) hall
          · obtain ⟨a1, a2, a3⟩ := hbs j hj
            refine ⟨rfl, rfl, ?_, rfl, a1, a2, a3⟩
            show upd ms.2.1.2.2.1 (ms.2.2.1 - 1) _ j = _
            exact pk_un (by omega)
        · have hlt : mo_nx cov pq mn k0 < mn := by omega
          have hib := x4 hlt
          generalize hKe : mo_nx cov pq mn k0 = KK at *
          have hrs : mw_rs cov KK ms = lf &&& (cov KK ^^^ (-1)) := by
            unfold mw_rs; rw [hd, t2]
          have hts := tight_sub hlt t13
          -- a candidate is looked at, and its rest's best is known
          have go : ∀ (z : Int32) (lo hi : Int64), Bst mn pn (Cvn mn cov (lf &&& (cov KK ^^^ (-1))) (r + 1 - 1)) z lo hi → Hd (mw_on (mo_bet pa (mw_b1 pa k0 ms).1 (mw_b1 pa k0 ms).2.1 (mw_b1 pa k0 ms).2.2 (ms.2.2.1 - 1) KK z lo hi) KK ms) := by
            intro z lo hi hb
            rw [hd]
            have hst := bst_step (d := D) hm hlt hp t10 t13 hib hb hb1
            obtain ⟨T2, S2⟩ := top_on T hlt hst (fun j hj => by
              obtain ⟨a1, a2, a3⟩ := bet_ne (pa := pa) (bz := (mw_b1 pa k0 ms).1) (bl := (mw_b1 pa k0 ms).2.1) (bh := (mw_b1 pa k0 ms).2.2) (d := D) (k := KK) (z := z) (lo := lo) (hi := hi) (show j ≠ D by omega)
              obtain ⟨c1, c2, c3⟩ := hbs j hj
              exact ⟨a1.trans c1, a2.trans c2, a3.trans c3⟩)
            exact ihn (KK + 1) _ (by omega) T2 (fun ms' P => K ms' ⟨P.1, P.2.1, P.2.2.1, P.2.2.2.1, same_tr S2 P.2.2.2.2⟩)
          -- a candidate whose rest has none
          have no : ∀ (lo hi : Int64), Bst mn pn (Cvn mn cov (lf &&& (cov KK ^^^ (-1))) (r + 1 - 1)) (-1) lo hi → Hd (mw_on (mw_b1 pa k0 ms) KK ms) := by
            intro lo hi hb
            have h := go (-1) lo hi hb
            rw [mo_bet_f (by unfold mo_bis; rw [decide_eq_true (show (-1 : Int32) < 0 by decide)]; rfl)] at h
            exact h
          by_cases h0 : mw_rs cov (mo_nx cov pq mn k0) ms = 0
          · rw [mo_work_0 (by rw [hKe]; exact hK) h0, hKe]
            rw [hKe, hrs] at h0
            exact go 0 0 0 (by rw [h0] at hts ⊢; exact bst_nil hts)
          · by_cases h1 : ms.1.1 (mw_at cov (mo_nx cov pq mn k0) (r + 1) ms) = 0
            · by_cases h2 : 0 < r + 1 - 1
              · cases h3 : mo_hop (mw_rs cov (mo_nx cov pq mn k0) ms) cov mn (r + 1 - 1) with
                | true =>
                  rw [mo_work_h (by rw [hKe]; exact hK) h0 h1 h3, hKe]
                  rw [hKe, hrs] at h3
                  exact no 0 0 (bst_hop h3 0 0)
                | false =>
                  rw [mo_work_w (by rw [hKe]; exact hK) h0 h1 h2 h3, hKe]
                  rw [hKe, hrs] at h0
                  obtain ⟨p, p1, p2, p3⟩ := po_some (cov := cov) (mn := mn) h0
                  have hr1 : r + 1 - 1 = r := by omega
                  refine ihr (D + 1) (lf &&& (cov KK ^^^ (-1))) p 0 _ ⟨?_, ?_, ?_, ?_, ?_, p1, p3, Nat.zero_le _, fun h => absurd rfl h, by omega, by omega, t12, by rw [hr1] at hts; exact hts, ?_⟩ (fun ms' P => ?_)
                  · show ms.2.2.1 + 1 = D + 1 + 1
                    omega
                  · show upd ms.2.1.1 ms.2.2.1 (mw_rs cov KK ms) (D + 1) = _
                    rw [t1, pk_us, hrs]
                  · show upd ms.2.1.2.1 ms.2.2.1 (mo_po (mw_rs cov KK ms) cov mn) (D + 1) = _
                    rw [t1, pk_us, hrs, p2]
                  · show upd (upd ms.2.1.2.2.1 (ms.2.2.1 - 1) (nI (KK + 1))) ms.2.2.1 0 (D + 1) = _
                    rw [t1, pk_us]; rfl
                  · show upd ms.2.1.2.2.2.1 ms.2.2.1 (nI (r + 1 - 1)) (D + 1) = _
                    rw [t1, pk_us, hr1]
                  · rw [mw_b1_t (ms := mw_push mn cov (mw_b1 pa k0 ms) KK (r + 1) ms) rfl]
                    refine Or.inl ⟨?_, ?_⟩
                    · show upd (mw_b1 pa k0 ms).1 ms.2.2.1 (-1) (D + 1) = -1
                      rw [t1, pk_us]
                    · rintro T2 ⟨-, j, hj, -⟩; exact absurd hj (Nat.not_lt_zero _)
                  · obtain ⟨q1, q2, q3, q4, q5⟩ := P
                    obtain ⟨e1, e2, e3, e4, e5, e6, e7⟩ := q5 D (by omega)
                    have hne : D ≠ ms.2.2.1 := by omega
                    have f1 : ms'.2.1.1 D = lf := by
                      rw [e1]; show upd ms.2.1.1 ms.2.2.1 _ D = lf
                      rw [pk_un hne, t2]
                    have f2 : ms'.2.1.2.1 D = nI pq := by
                      rw [e2]; show upd ms.2.1.2.1 ms.2.2.1 _ D = nI pq
                      rw [pk_un hne, t3]
                    have f3 : ms'.2.1.2.2.1 D = nI (KK + 1) := by
                      rw [e3]; show upd (upd ms.2.1.2.2.1 (ms.2.2.1 - 1) (nI (KK + 1))) ms.2.2.1 0 D = nI (KK + 1)
                      rw [pk_un hne, hd, pk_us]
                    have f4 : ms'.2.1.2.2.2.1 D = nI (r + 1) := by
                      rw [e4]; show upd ms.2.1.2.2.2.1 ms.2.2.1 _ D = nI (r + 1)
                      rw [pk_un hne, t5]
                    have f5 : ms'.2.1.2.2.2.2.1 D = (mw_b1 pa k0 ms).1 D := by
                      rw [e5]; show upd (mw_b1 pa k0 ms).1 ms.2.2.1 (-1) D = _
                      rw [pk_un hne]
                    have hc0 : ¬ ms'.2.2.2.1 = 0 := by rw [q2]; decide
                    have hde : ms'.2.2.1 - 1 = D := by omega
                    have T2 : TopOK mn cov pa pn D lf (r + 1) pq (KK + 1) ms' := by
                      refine ⟨q1, f1, f2, f3, f4, t6, t7, by omega, fun _ => by omega, t10, t11, q4, t13, ?_⟩
                      rw [mw_b1_f hc0, hde, Nat.add_sub_cancel]
                      refine bst_step (d := D) hm hlt hp t10 t13 hib (by rw [hr1]; exact q3) ?_
                      rw [f5, e6, e7]
                      exact hb1
                    refine ihn (KK + 1) ms' (by omega) T2 (fun ms'' P2 => K ms'' ⟨P2.1, P2.2.1, P2.2.2.1, P2.2.2.2.1, same_tr (fun j hj => ?_) P2.2.2.2.2⟩)
                    obtain ⟨g1, g2, g3, g4, g5, g6, g7⟩ := q5 j (by omega)
                    obtain ⟨c1, c2, c3⟩ := hbs j hj
                    have hn1 : j ≠ ms.2.2.1 := by omega
                    refine ⟨g1.trans (pk_un hn1), g2.trans (pk_un hn1), g3.trans ?_, g4.trans (pk_un hn1), g5.trans ((pk_un hn1).trans c1), g6.trans c2, g7.trans c3⟩
                    show upd (upd ms.2.1.2.2.1 (ms.2.2.1 - 1) (nI (KK + 1))) ms.2.2.1 0 j = _
                    rw [pk_un hn1]
                    exact pk_un (by omega)
              · rw [mo_work_n (by rw [hKe]; exact hK) h0 h1 (by omega), hKe]
                rw [hKe, hrs] at h0
                have hr0 : r + 1 - 1 = 0 := by omega
                exact no 0 0 (by rw [hr0]; exact bst_room h0 0 0)
            · rw [mo_work_m (by rw [hKe]; exact hK) h0 h1, hKe]
              rw [hKe] at h1
              unfold mw_at at h1 ⊢
              rw [hrs] at h1 ⊢
              exact go _ _ _ (memo_hit t12 (by omega) h1)
    intro k0 ms T K
    exact inner (mn - k0 + 1) k0 ms (by omega) T K
end RUN
