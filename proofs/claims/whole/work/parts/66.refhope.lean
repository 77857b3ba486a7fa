/-! ends of the reference's search: nothing left, no room, no hope; the point that is taken; the memo -/
theorem ib_ext {x y : Int32} (h : ∀ i, i < 32 → ib x i = ib y i) : x = y := Int32.toBitVec_inj.1 (BitVec.eq_of_getLsbD_eq h)
theorem ib_0 (i : Nat) : ib 0 i = false := by simp [ib]
theorem ib_ne0 {x : Int32} (h : ¬ x = 0) : ∃ q, q < 32 ∧ ib x q = true := by
  refine Classical.byContradiction fun hn => h (ib_ext (fun i hi => ?_))
  rw [ib_0, Bool.eq_false_iff]
  exact fun q => hn ⟨i, hi, q⟩
theorem cnt_none {T : Nat → Bool} {n : Nat} (h : cnt T n = 0) {k : Nat} (hk : k < n) : T k = false := by
  cases ht : T k with
  | false => rfl
  | true =>
    have := cnt_lt hk ht
    omega
theorem cnt_empty {T : Nat → Bool} (h : ∀ k, T k = false) : ∀ n, cnt T n = 0 := by
  intro n
  induction n with
  | zero => rfl
  | succ n ih => rw [cnt_s, ih, h n]; rfl
theorem sw_empty {w : Nat → Nat} {T : Nat → Bool} (h : ∀ k, T k = false) : ∀ n, sw w T n = 0 := by
  intro n
  induction n with
  | zero => rfl
  | succ n ih => rw [sw, ih, h n]; rfl
theorem gone_0 (k : Nat) : mo_gone 0 0 k = false := by
  unfold mo_gone
  split <;> exact zb_0 _
/-- nothing is left: the empty set -/
theorem bst_nil {mn rn : Nat} {cov : Nat → Int32} {pn : Nat → Nat} (ht : Tight mn cov 0 rn) : Bst mn pn (Cvn mn cov 0 rn) 0 0 0 := by
  have hcv : Cv mn cov 0 (mo_gone 0 0) := ⟨fun k hk => (by rw [gone_0] at hk; cases hk), fun q _ hb => (by rw [ib_0] at hb; cases hb)⟩
  have h0 := cnt_empty gone_0 mn
  have h1 := ht _ hcv
  refine Or.inr ⟨⟨fun i _ => zb_0 i, fun k hk => (by rw [gone_0] at hk; cases hk)⟩, ⟨hcv, by omega⟩, by rw [sw_empty gone_0]; rfl, ?_⟩
  rintro T ⟨a, b⟩ hB
  have hT : ∀ k, T k = false := fun k => by
    cases hk : T k with
    | false => rfl
    | true => rw [cnt_none (T := T) (n := mn) (by omega) (a.1 k hk)] at hk; cases hk
  rcases hB with q | ⟨-, q⟩
  · rw [sw_empty (T := T) hT, sw_empty gone_0] at q; omega
  · obtain ⟨d, c, -⟩ := q
    rw [hT] at c; cases c
/-- no room: no set -/
theorem bst_room {mn : Nat} {cov : Nat → Int32} {pn : Nat → Nat} {lf : Int32} (h : ¬ lf = 0) (lo hi : Int64) : Bst mn pn (Cvn mn cov lf 0) (-1) lo hi := by
  refine Or.inl ⟨rfl, ?_⟩
  rintro T ⟨a, b⟩
  obtain ⟨q, hq, hb⟩ := ib_ne0 h
  obtain ⟨k, c, d, -⟩ := a.2 q hq hb
  rw [cnt_none b c] at d; cases d
theorem sw_addf (f g : Nat → Nat) (T : Nat → Bool) : ∀ n, sw (fun k => f k + g k) T n = sw f T n + sw g T n := by
  intro n
  induction n with
  | zero => rfl
  | succ n ih =>
    rw [sw, sw, sw, ih]
    split <;> omega
theorem sw_mem {w : Nat → Nat} {T : Nat → Bool} {n k : Nat} (hk : k < n) (ht : T k = true) : w k ≤ sw w T n := by
  have := sw_one (w := w) (S := fun _ => false) (T := T) (n := n) (i := k) (fun j _ h => by cases h) hk rfl ht
  omega
theorem sw_cap {w : Nat → Nat} {T : Nat → Bool} {M : Nat} : ∀ {n : Nat}, (∀ k, k < n → w k ≤ M) → sw w T n ≤ cnt T n * M := by
  intro n
  induction n with
  | zero => intro _; exact Nat.zero_le _
  | succ n ih =>
    intro h
    have h1 := ih (fun k hk => h k (by omega))
    have h2 := h n (by omega)
    rw [sw, cnt_s]
    by_cases ht : T n = true
    · rw [if_pos ht, if_pos ht, Nat.add_mul, Nat.one_mul]; exact Nat.add_le_add h1 h2
    · rw [if_neg ht, if_neg ht]; exact h1
theorem pts_le {mn : Nat} {cov : Nat → Int32} {lf : Int32} {T : Nat → Bool} (h : Cv mn cov lf T) : ∀ n, n ≤ 32 → cnt (ib lf) n ≤ sw (fun k => cnt (ib (lf &&& cov k)) n) T mn := by
  intro n
  induction n with
  | zero => intro _; exact Nat.zero_le _
  | succ n ih =>
    intro hn
    have h1 := ih (by omega)
    have e : sw (fun k => cnt (ib (lf &&& cov k)) (n + 1)) T mn = sw (fun k => cnt (ib (lf &&& cov k)) n) T mn + sw (fun k => if ib (lf &&& cov k) n = true then 1 else 0) T mn := sw_addf _ _ T mn
    rw [e, cnt_s]
    by_cases hb : ib lf n = true
    · rw [if_pos hb]
      obtain ⟨k, a, b, c⟩ := h.2 n (by omega) hb
      have h2 := sw_mem (w := fun k => if ib (lf &&& cov k) n = true then 1 else 0) a b
      have h3 : (if ib (lf &&& cov k) n = true then 1 else 0) = 1 := if_pos (by rw [ib_and, hb, c]; rfl)
      simp only [h3] at h2
      omega
    · rw [if_neg hb]; omega
theorem most_ge {lf : Int32} {cov : Nat → Int32} : ∀ {n k : Nat}, k < n → cnt (ib (lf &&& cov k)) 32 ≤ fo (mo_mof lf cov) n 0 := by
  intro n
  induction n with
  | zero => intro k h; omega
  | succ n ih =>
    intro k h
    rw [fo_s]
    have h1 : k < n → cnt (ib (lf &&& cov k)) 32 ≤ fo (mo_mof lf cov) n 0 := fun q => ih q
    generalize fo (mo_mof lf cov) n 0 = a at h1 ⊢
    unfold mo_mof
    by_cases hk : k = n
    · subst hk; split <;> omega
    · have := h1 (by omega)
      split <;> omega
/-- no hope: no set -/
theorem bst_hop {mn rn : Nat} {cov : Nat → Int32} {pn : Nat → Nat} {lf : Int32} (h : mo_hop lf cov mn rn = true) (lo hi : Int64) : Bst mn pn (Cvn mn cov lf rn) (-1) lo hi := by
  refine Or.inl ⟨rfl, ?_⟩
  rintro T ⟨a, b⟩
  have h1 := of_decide_eq_true h
  have h2 := pts_le a 32 (Nat.le_refl _)
  have h3 := sw_cap (w := fun k => cnt (ib (lf &&& cov k)) 32) (T := T) (M := fo (mo_mof lf cov) mn 0) (fun k hk => most_ge hk)
  rw [b, Nat.mul_comm] at h3
  omega
/-- the point that is taken is one of those that are left -/
theorem po_ok {lf : Int32} {cov : Nat → Int32} {mn : Nat} : ∀ n, n ≤ 32 → ((fo (mo_pof lf cov mn) n (-1, 0)).1 = -1 ∧ ∀ q, q < n → ib lf q = false) ∨ ∃ p, p < n ∧ (fo (mo_pof lf cov mn) n (-1, 0)).1 = nI p ∧ ib lf p = true := by
  intro n
  induction n with
  | zero => intro _; exact Or.inl ⟨rfl, fun q h => absurd h (Nat.not_lt_zero _)⟩
  | succ n ih =>
    intro hn
    have h := ih (by omega)
    rw [fo_s]
    generalize fo (mo_pof lf cov mn) n (-1, 0) = a at h ⊢
    cases hb : ib lf n with
    | false =>
      rw [mo_pof_f hb]
      rcases h with ⟨c, d⟩ | ⟨p, c, d, e⟩
      · refine Or.inl ⟨c, fun q hq => ?_⟩
        by_cases hqn : q = n
        · subst hqn; exact hb
        · exact d q (by omega)
      · exact Or.inr ⟨p, by omega, d, e⟩
    | true =>
      by_cases h2 : a.1 < 0 ∨ mo_srv cov mn n < a.2
      · rw [mo_pof_a hb a h2]
        exact Or.inr ⟨n, by omega, rfl, hb⟩
      · rw [mo_pof_b hb a h2]
        rcases h with ⟨c, d⟩ | ⟨p, c, d, e⟩
        · exact absurd (Or.inl (by rw [c]; decide)) h2
        · exact Or.inr ⟨p, by omega, d, e⟩
theorem po_some {lf : Int32} {cov : Nat → Int32} {mn : Nat} (h : ¬ lf = 0) : ∃ p, p < 32 ∧ mo_po lf cov mn = nI p ∧ ib lf p = true := by
  rcases po_ok (lf := lf) (cov := cov) (mn := mn) 32 (Nat.le_refl _) with ⟨-, d⟩ | h
  · obtain ⟨q, hq, hb⟩ := ib_ne0 h
    rw [d q hq] at hb; cases hb
  · exact h
/-- what is kept is right, and there is room -/
def Memo (mn : Nat) (cov : Nat → Int32) (pn : Nat → Nat) (mt : MT) : Prop :=
  (∀ a, a < 65536 → ¬ mt.1 a = 0 → ∃ r, r < 2 ^ 31 ∧ mt.2.2.1 a = nI r ∧ Bst mn pn (Cvn mn cov (mt.2.1 a) r) (mt.2.2.2.1 a) (mt.2.2.2.2.1 a) (mt.2.2.2.2.2.1 a)) ∧ cnt (fun a => !decide (mt.1 a = 0)) 65536 ≤ mt.2.2.2.2.2.2 ∧ mt.2.2.2.2.2.2 ≤ 32768
theorem memo_free {mn : Nat} {cov : Nat → Int32} {pn : Nat → Nat} {mt : MT} (h : Memo mn cov pn mt) : ∃ a, a < 65536 ∧ mt.1 a = 0 := by
  refine Classical.byContradiction fun hn => ?_
  have full : ∀ n, n ≤ 65536 → cnt (fun a => !decide (mt.1 a = 0)) n = n := by
    intro n
    induction n with
    | zero => intro _; rfl
    | succ n ih =>
      intro hle
      rw [cnt_s, ih (by omega)]
      have : (!decide (mt.1 n = 0)) = true := by
        rw [Bool.not_eq_true', decide_eq_false_iff_not]
        exact fun q => hn ⟨n, by omega, q⟩
      rw [if_pos this]
  have := full 65536 (Nat.le_refl _)
  have h1 := h.2.1
  have h2 := h.2.2
  omega
theorem memo_stop {mn : Nat} {cov : Nat → Int32} {pn : Nat → Nat} {mt : MT} (h : Memo mn cov pn mt) (lf rr : Int32) : mt.1 (mo_at mt.1 mt.2.1 mt.2.2.1 lf rr) = 0 ∨ (mt.2.1 (mo_at mt.1 mt.2.1 mt.2.2.1 lf rr) = lf ∧ mt.2.2.1 (mo_at mt.1 mt.2.1 mt.2.2.1 lf rr) = rr) := by
  obtain ⟨j, hj, hp⟩ := free_sp (th := mt.1) (le := mt.2.1) (ro := mt.2.2.1) (memo_free h) lf rr
  have h1 := fi_stop 65536 hp
  have h2 := fi_yes (mo_sp mt.1 mt.2.1 mt.2.2.1 lf rr) 65536 (by omega)
  unfold mo_sp at h2
  rw [Bool.or_eq_true, Bool.and_eq_true, decide_eq_true_eq, decide_eq_true_eq, decide_eq_true_eq] at h2
  exact h2
theorem memo_hit {mn rn : Nat} {cov : Nat → Int32} {pn : Nat → Nat} {mt : MT} (h : Memo mn cov pn mt) {lf : Int32} (hr : rn < 2 ^ 31) (ht : ¬ mt.1 (mo_at mt.1 mt.2.1 mt.2.2.1 lf (nI rn)) = 0) : Bst mn pn (Cvn mn cov lf rn) (mt.2.2.2.1 (mo_at mt.1 mt.2.1 mt.2.2.1 lf (nI rn))) (mt.2.2.2.2.1 (mo_at mt.1 mt.2.1 mt.2.2.1 lf (nI rn))) (mt.2.2.2.2.2.1 (mo_at mt.1 mt.2.1 mt.2.2.1 lf (nI rn))) := by
  rcases memo_stop h lf (nI rn) with q | ⟨q1, q2⟩
  · exact absurd q ht
  · obtain ⟨r, a, b, c⟩ := h.1 _ (mo_at_lt _ _ _ _ _) ht
    rw [q2, nI_eq hr a] at b
    rw [q1, ← b] at c
    exact c
theorem memo_keep {mn rn : Nat} {cov : Nat → Int32} {pn : Nat → Nat} {mt : MT} (h : Memo mn cov pn mt) {lf z : Int32} {lo hi : Int64} (hr : rn < 2 ^ 31) (hb : Bst mn pn (Cvn mn cov lf rn) z lo hi) : Memo mn cov pn (mo_keep lf (nI rn) z lo hi mt) := by
  by_cases hk : mt.2.2.2.2.2.2 < 32768
  · rw [mo_keep_t hk]
    have hat := mo_at_lt mt.1 mt.2.1 mt.2.2.1 lf (nI rn)
    generalize mo_at mt.1 mt.2.1 mt.2.2.1 lf (nI rn) = a at hat ⊢
    refine ⟨fun b hb2 hn => ?_, ?_, by show mt.2.2.2.2.2.2 + 1 ≤ 32768; omega⟩
    · show ∃ r, r < 2 ^ 31 ∧ upd mt.2.2.1 a (nI rn) b = nI r ∧ Bst mn pn (Cvn mn cov (upd mt.2.1 a lf b) r) (upd mt.2.2.2.1 a z b) (vp_updL mt.2.2.2.2.1 a lo b) (vp_updL mt.2.2.2.2.2.1 a hi b)
      by_cases e : b = a
      · subst e
        rw [pk_us, pk_us, pk_us, pk_uLs, pk_uLs]
        exact ⟨rn, hr, rfl, hb⟩
      · rw [pk_un e, pk_un e, pk_un e, pk_uLn e, pk_uLn e]
        have hn : ¬ upd mt.1 a 1 b = 0 := hn
        rw [pk_un e] at hn
        exact h.1 b hb2 hn
    · show cnt (fun b => !decide (upd mt.1 a 1 b = 0)) 65536 ≤ mt.2.2.2.2.2.2 + 1
      have e : cnt (fun b => !decide (upd mt.1 a 1 b = 0)) 65536 = cnt (su (fun b => !decide (mt.1 b = 0)) a true) 65536 := sw_congr (fun i _ => by
        by_cases q : i = a
        · subst q; rw [su_s, pk_us]; rfl
        · rw [su_n _ _ q, pk_un q])
      have h2 := cnt_su (S := fun b => !decide (mt.1 b = 0)) (i := a) (b := true) hat
      have h3 := h.2.1
      rw [e]
      simp at h2
      omega
  · rw [mo_keep_f (by omega)]
    exact h
