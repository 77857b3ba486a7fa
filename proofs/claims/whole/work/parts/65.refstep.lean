/-! a step of the reference's search finds the better one -/
theorem sw_324 {pn : Nat → Nat} {mn : Nat} (hm : mn ≤ 81) (hp : ∀ k, k < mn → pn k ≤ 4) (T : Nat → Bool) : sw pn T mn ≤ 324 := by
  have h1 := sw_le (S := T) hp
  have h2 : mn * 4 ≤ 81 * 4 := Nat.mul_le_mul_right 4 hm
  omega
/-- covers of lf with rn candidates, one of them below j serving pq -/
def Fr (mn : Nat) (cov : Nat → Int32) (lf : Int32) (rn pq j : Nat) (T : Nat → Bool) : Prop := Cvn mn cov lf rn T ∧ ∃ k, k < j ∧ T k = true ∧ ib (cov k) pq = true
theorem bet_su {pn : Nat → Nat} {mn k : Nat} (hk : k < mn) {S T : Nat → Bool} (hs : S k = false) (ht : T k = false) : Bet (sw pn (su S k true) mn) (su S k true) (sw pn (su T k true) mn) (su T k true) ↔ Bet (sw pn S mn) S (sw pn T mn) T := by
  have h1 := sw_su (w := pn) (S := S) (i := k) (b := true) hk
  have h2 := sw_su (w := pn) (S := T) (i := k) (b := true) hk
  rw [hs] at h1
  rw [ht] at h2
  simp at h1 h2
  unfold Bet
  rw [lex_su hs ht, h1, h2]
  constructor
  · rintro (a | ⟨a, b⟩)
    · exact Or.inl (by omega)
    · exact Or.inr ⟨by omega, b⟩
  · rintro (a | ⟨a, b⟩)
    · exact Or.inl (by omega)
    · exact Or.inr ⟨by omega, b⟩
theorem su_back {T : Nat → Bool} {k : Nat} (h : T k = true) : ∀ i, su (su T k false) k true i = T i := fun i => by
  by_cases e : i = k
  · subst e; rw [su_s, h]
  · rw [su_n _ _ e, su_n _ _ e]
theorem cv_congr {mn : Nat} {cov : Nat → Int32} {lf : Int32} {S T : Nat → Bool} (h : ∀ i, S i = T i) (c : Cv mn cov lf S) : Cv mn cov lf T := ⟨fun k hk => c.1 k (by rw [h]; exact hk), fun q hq hb => by
  obtain ⟨k, a, b, d⟩ := c.2 q hq hb
  exact ⟨k, a, by rw [← h]; exact b, d⟩⟩
/-- a cover with k, less k, is a cover of what k leaves -/
theorem fr_down {mn k rn : Nat} {cov : Nat → Int32} {lf : Int32} (hk : k < mn) {T : Nat → Bool} (h : Cvn mn cov lf rn T) (ht : T k = true) : Cvn mn cov (lf &&& (cov k ^^^ (-1))) (rn - 1) (su T k false) := by
  refine ⟨cv_down h.1, ?_⟩
  have h2 := cnt_su (S := T) (i := k) (b := false) hk
  rw [ht] at h2
  simp at h2
  have := h.2
  omega
theorem nI_m1 {n : Nat} (h : n < 2 ^ 31) : ¬ nI n < 0 := nI_pos h
set_option maxHeartbeats 1000000 in
theorem bst_step {mn k rn pq d : Nat} {cov pa : Nat → Int32} {pn : Nat → Nat} {lf : Int32} (hm : mn ≤ 81) (hk : k < mn) (hp : ∀ j, j < mn → pa j = nI (pn j) ∧ pn j ≤ 4) (hr : 1 ≤ rn) (ht : Tight mn cov lf rn) (hq : ib (cov k) pq = true) {z : Int32} {lo hi : Int64} (hb : Bst mn pn (Cvn mn cov (lf &&& (cov k ^^^ (-1))) (rn - 1)) z lo hi)
    {bz : Nat → Int32} {bl bh : Nat → Int64} (hc : Bst mn pn (Fr mn cov lf rn pq k) (bz d) (bl d) (bh d)) :
    Bst mn pn (Fr mn cov lf rn pq (k + 1)) ((mo_bet pa bz bl bh d k z lo hi).1 d) ((mo_bet pa bz bl bh d k z lo hi).2.1 d) ((mo_bet pa bz bl bh d k z lo hi).2.2 d) := by
  have h4 : ∀ j, j < mn → pn j ≤ 4 := fun j hj => (hp j hj).2
  have hts := tight_sub hk ht
  rcases hb with ⟨e, hno⟩ | ⟨hR, hA, hz, hmin⟩
  · -- nothing can be added to k
    have hf : mo_bis pa bz bl bh d k z lo hi = false := by
      unfold mo_bis
      rw [e, decide_eq_true (show (-1 : Int32) < 0 by decide)]; rfl
    rw [mo_bet_f hf]
    refine bst_congr (fun T => ?_) hc
    constructor
    · rintro ⟨a, j, b, c⟩; exact ⟨a, j, by omega, c⟩
    · rintro ⟨a, j, b, c⟩
      by_cases hj : j = k
      · subst hj; exact absurd (fr_down hk a c.1) (hno _)
      · exact ⟨a, j, by omega, c⟩
  · have hAk := not_in hk hts hA
    have hN : ∀ i, mo_gone (mo_lo k lo) (mo_hi k hi) i = su (mo_gone lo hi) k true i := fun i => by
      rw [gone_add (by omega)]
      by_cases q : i = k
      · subst q; rw [su_s]; simp
      · rw [su_n _ _ q]; simp [q]
    have hNf : mo_gone (mo_lo k lo) (mo_hi k hi) = su (mo_gone lo hi) k true := funext hN
    have hRN := rep_add hm hk hR
    have hsN := sw_su (w := pn) (S := mo_gone lo hi) (i := k) (b := true) hk
    rw [hAk] at hsN
    simp at hsN
    have hcN := cnt_su (S := mo_gone lo hi) (i := k) (b := true) hk
    rw [hAk] at hcN
    simp at hcN
    have hcA := hA.2
    have hPN : Fr mn cov lf rn pq (k + 1) (mo_gone (mo_lo k lo) (mo_hi k hi)) := by
      rw [hNf]
      exact ⟨⟨cv_up hk hA.1, by omega⟩, k, by omega, su_s _ _ _, hq⟩
    have hsz : z + pa k = nI (sw pn (mo_gone (mo_lo k lo) (mo_hi k hi)) mn) := by
      rw [hz, (hp k hk).1, nI_add, hNf, hsN]
    have b1 := sw_324 hm h4 (mo_gone lo hi)
    have b2 := sw_324 hm h4 (mo_gone (mo_lo k lo) (mo_hi k hi))
    have hz0 : ¬ z < 0 := by rw [hz]; exact nI_pos (by omega)
    -- covers with k
    have hwith : ∀ T, Cvn mn cov lf rn T → T k = true → ¬ Bet (sw pn T mn) T (sw pn (mo_gone (mo_lo k lo) (mo_hi k hi)) mn) (mo_gone (mo_lo k lo) (mo_hi k hi)) := by
      intro T hT hTk hB
      have h1 := hmin _ (fr_down hk hT hTk)
      apply h1
      rw [← bet_su (pn := pn) hk (su_s _ _ _) hAk, ← hNf]
      rw [show su (su T k false) k true = T from funext (su_back hTk)]
      exact hB
    rcases hc with ⟨e, hno⟩ | ⟨cR, cP, cz, cmin⟩
    · have htr : mo_bis pa bz bl bh d k z lo hi = true := by
        unfold mo_bis
        rw [decide_eq_false hz0, e, decide_eq_true (show (-1 : Int32) < 0 by decide)]; rfl
      rw [mo_bet_t htr]
      show Bst mn pn _ (upd bz d (z + pa k) d) (vp_updL bl d (mo_lo k lo) d) (vp_updL bh d (mo_hi k hi) d)
      rw [pk_us, pk_uLs, pk_uLs]
      refine Or.inr ⟨hRN, hPN, hsz, ?_⟩
      rintro T ⟨a, j, b, c⟩
      by_cases hj : j = k
      · subst hj; exact hwith T a c.1
      · exact absurd ⟨a, j, by omega, c⟩ (hno T)
    · have b3 := sw_324 hm h4 (mo_gone (bl d) (bh d))
      have hbd : ¬ bz d < 0 := by rw [cz]; exact nI_pos (by omega)
      have hiff : mo_bis pa bz bl bh d k z lo hi = true ↔ Bet (sw pn (mo_gone (mo_lo k lo) (mo_hi k hi)) mn) (mo_gone (mo_lo k lo) (mo_hi k hi)) (sw pn (mo_gone (bl d) (bh d)) mn) (mo_gone (bl d) (bh d)) := by
        unfold mo_bis Bet
        rw [decide_eq_false hz0, decide_eq_false hbd, hsz, cz, ← less_iff hRN.1 cR.1]
        simp only [Bool.not_false, Bool.true_and, Bool.false_or, Bool.or_eq_true, Bool.and_eq_true, decide_eq_true_eq, nI_ltI (show sw pn (mo_gone (mo_lo k lo) (mo_hi k hi)) mn < 2 ^ 31 by omega) (show sw pn (mo_gone (bl d) (bh d)) mn < 2 ^ 31 by omega), nI_eq (show sw pn (mo_gone (mo_lo k lo) (mo_hi k hi)) mn < 2 ^ 31 by omega) (show sw pn (mo_gone (bl d) (bh d)) mn < 2 ^ 31 by omega)]
      cases hbis : mo_bis pa bz bl bh d k z lo hi with
      | true =>
        have hB := hiff.mp hbis
        rw [mo_bet_t hbis]
        show Bst mn pn _ (upd bz d (z + pa k) d) (vp_updL bl d (mo_lo k lo) d) (vp_updL bh d (mo_hi k hi) d)
        rw [pk_us, pk_uLs, pk_uLs]
        refine Or.inr ⟨hRN, hPN, hsz, ?_⟩
        rintro T ⟨a, j, b, c⟩
        by_cases hj : j = k
        · subst hj; exact hwith T a c.1
        · exact bet_tr (cmin T ⟨a, j, by omega, c⟩) (fun q => bet_asym hB q)
      | false =>
        have hB : ¬ Bet (sw pn (mo_gone (mo_lo k lo) (mo_hi k hi)) mn) (mo_gone (mo_lo k lo) (mo_hi k hi)) (sw pn (mo_gone (bl d) (bh d)) mn) (mo_gone (bl d) (bh d)) := fun q => by
          rw [hiff.mpr q] at hbis; cases hbis
        rw [mo_bet_f hbis]
        refine Or.inr ⟨cR, ⟨cP.1, ?_⟩, cz, ?_⟩
        · obtain ⟨j, b, c⟩ := cP.2
          exact ⟨j, by omega, c⟩
        · rintro T ⟨a, j, b, c⟩
          by_cases hj : j = k
          · subst hj; exact bet_tr (hwith T a c.1) hB
          · exact cmin T ⟨a, j, by omega, c⟩
/-- no further candidate up to j serves pq -/
theorem bst_skip {mn rn pq a b : Nat} {cov : Nat → Int32} {pn : Nat → Nat} {lf : Int32} (hab : a ≤ b) (hn : ∀ k, a ≤ k → k < b → ib (cov k) pq = false) {z : Int32} {lo hi : Int64} (h : Bst mn pn (Fr mn cov lf rn pq a) z lo hi) : Bst mn pn (Fr mn cov lf rn pq b) z lo hi := by
  refine bst_congr (fun T => ?_) h
  constructor
  · rintro ⟨c, j, d, e⟩; exact ⟨c, j, by omega, e⟩
  · rintro ⟨c, j, d, e⟩
    refine ⟨c, j, ?_, e⟩
    rcases Nat.lt_or_ge j a with q | q
    · exact q
    · rw [hn j q d] at e; cases e.2
/-- once all are seen, the frame's best is the best cover -/
theorem bst_all {mn rn pq : Nat} {cov : Nat → Int32} {pn : Nat → Nat} {lf : Int32} (hp : pq < 32) (hl : ib lf pq = true) {z : Int32} {lo hi : Int64} (h : Bst mn pn (Fr mn cov lf rn pq mn) z lo hi) : Bst mn pn (Cvn mn cov lf rn) z lo hi := by
  refine bst_congr (fun T => ?_) h
  constructor
  · exact fun c => c.1
  · intro c
    obtain ⟨k, a, b, d⟩ := c.1.2 pq hp hl
    exact ⟨c, k, a, b, d⟩
