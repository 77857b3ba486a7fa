/-! what the reference's search looks for: covers with a given number of candidates, told by pairs of longs -/
theorem less_iff {lo hi ol oh : Int64} (h1 : ∀ i, 41 ≤ i → zb lo i = false) (h2 : ∀ i, 41 ≤ i → zb ol i = false) : mo_less lo hi ol oh = true ↔ Lex (mo_gone lo hi) (mo_gone ol oh) := by
  have assoc : ∀ x d : Int64, (x &&& d) &&& -d = x &&& (d &&& -d) := fun x d => zb_ext (fun i _ => by rw [zb_and, zb_and, zb_and, zb_and, Bool.and_assoc])
  have glo : ∀ (a b : Int64) (i : Nat), i < 41 → mo_gone a b i = zb a i := fun a b i hi => if_pos hi
  have ghi : ∀ (a b : Int64) (i : Nat), 41 ≤ i → mo_gone a b i = zb b (i - 41) := fun a b i hi => if_neg (Nat.not_lt.mpr hi)
  by_cases he : lo ^^^ ol = 0
  · rw [mo_less_e he, assoc, Bool.not_eq_true', decide_eq_false_iff_not, lex_code, Classical.not_not]
    have hz : ∀ i, zb lo i = zb ol i := fun i => by
      have := zb_eq0.mp he i
      rw [zb_xor] at this
      cases h : zb lo i <;> cases g : zb ol i <;> simp [h, g] at this ⊢
    constructor
    · rintro ⟨d, a, b, c⟩
      refine ⟨d + 41, ?_, ?_, fun i hi => ?_⟩
      · rw [ghi _ _ _ (by omega), Nat.add_sub_cancel]; exact a
      · rw [ghi _ _ _ (by omega), Nat.add_sub_cancel]; exact b
      · rcases Nat.lt_or_ge i 41 with q | q
        · rw [glo _ _ _ q, glo _ _ _ q, hz]
        · rw [ghi _ _ _ q, ghi _ _ _ q]; exact c (i - 41) (by omega)
    · rintro ⟨d, a, b, c⟩
      rcases Nat.lt_or_ge d 41 with q | q
      · rw [glo _ _ _ q] at a b; rw [hz, b] at a; cases a
      · rw [ghi _ _ _ q] at a b
        refine ⟨d - 41, a, b, fun i hi => ?_⟩
        have := c (i + 41) (by omega)
        rw [ghi _ _ _ (by omega), ghi _ _ _ (by omega), Nat.add_sub_cancel] at this
        exact this
  · rw [mo_less_n he, assoc, Bool.not_eq_true', decide_eq_false_iff_not, lex_code, Classical.not_not]
    constructor
    · rintro ⟨d, a, b, c⟩
      have hd : d < 41 := by
        rcases Nat.lt_or_ge d 41 with q | q
        · exact q
        · rw [h1 d q] at a; cases a
      exact ⟨d, by rw [glo _ _ _ hd]; exact a, by rw [glo _ _ _ hd]; exact b, fun i hi => by rw [glo _ _ _ (by omega), glo _ _ _ (by omega)]; exact c i hi⟩
    · rintro ⟨d, a, b, c⟩
      rcases Nat.lt_or_ge d 41 with q | q
      · exact ⟨d, by rw [← glo lo hi d q]; exact a, by rw [← glo ol oh d q]; exact b, fun i hid => by rw [← glo lo hi i (by omega), ← glo ol oh i (by omega)]; exact c i hid⟩
      · exfalso
        apply he
        rw [zb_eq0]
        intro i
        rw [zb_xor]
        rcases Nat.lt_or_ge i 41 with r | r
        · have := c i (by omega)
          rw [glo _ _ _ r, glo _ _ _ r] at this
          rw [this]; simp
        · rw [h1 i r, h2 i r]; rfl
theorem gone_add {k : Nat} (hk : k < 81) (lo hi : Int64) (j : Nat) : mo_gone (mo_lo k lo) (mo_hi k hi) j = (mo_gone lo hi j || decide (j = k)) := by
  unfold mo_gone mo_lo mo_hi
  rcases Nat.lt_or_ge k 41 with h | h
  · rw [if_pos h, if_pos h]
    rcases Nat.lt_or_ge j 41 with g | g
    · rw [if_pos g, if_pos g, zb_add _ (by omega)]
    · rw [if_neg (Nat.not_lt.mpr g), if_neg (Nat.not_lt.mpr g), decide_eq_false (show ¬ j = k by omega), Bool.or_false]
  · rw [if_neg (Nat.not_lt.mpr h), if_neg (Nat.not_lt.mpr h)]
    rcases Nat.lt_or_ge j 41 with g | g
    · rw [if_pos g, if_pos g, decide_eq_false (show ¬ j = k by omega), Bool.or_false]
    · rw [if_neg (Nat.not_lt.mpr g), if_neg (Nat.not_lt.mpr g), zb_add _ (by omega)]
      congr 1
      exact decide_eq_decide.mpr (by omega)
/-- the pair is a set of numbers below mn -/
def Rep (mn : Nat) (lo hi : Int64) : Prop := (∀ i, 41 ≤ i → zb lo i = false) ∧ ∀ k, mo_gone lo hi k = true → k < mn
theorem rep_add {mn k : Nat} (hm : mn ≤ 81) (hk : k < mn) {lo hi : Int64} (h : Rep mn lo hi) : Rep mn (mo_lo k lo) (mo_hi k hi) := by
  refine ⟨fun i hi' => ?_, fun j hj => ?_⟩
  · unfold mo_lo
    rcases Nat.lt_or_ge k 41 with q | q
    · rw [if_pos q, zb_add _ (by omega), h.1 i hi', decide_eq_false (show ¬ i = k by omega)]; rfl
    · rw [if_neg (Nat.not_lt.mpr q)]; exact h.1 i hi'
  · rw [gone_add (by omega), Bool.or_eq_true, decide_eq_true_eq] at hj
    rcases hj with q | q
    · exact h.2 j q
    · omega
/-- T serves all points of lf -/
def Cv (mn : Nat) (cov : Nat → Int32) (lf : Int32) (T : Nat → Bool) : Prop := (∀ k, T k = true → k < mn) ∧ ∀ q, q < 32 → ib lf q = true → ∃ k, k < mn ∧ T k = true ∧ ib (cov k) q = true
/-- (z, lo, hi) is the best of the sets with P: -1 if there is none -/
def Bst (mn : Nat) (pn : Nat → Nat) (P : (Nat → Bool) → Prop) (z : Int32) (lo hi : Int64) : Prop :=
  (z = -1 ∧ ∀ T, ¬ P T) ∨ (Rep mn lo hi ∧ P (mo_gone lo hi) ∧ z = nI (sw pn (mo_gone lo hi) mn) ∧ ∀ T, P T → ¬ Bet (sw pn T mn) T (sw pn (mo_gone lo hi) mn) (mo_gone lo hi))
theorem bst_congr {mn : Nat} {pn : Nat → Nat} {P P' : (Nat → Bool) → Prop} (h : ∀ T, P T ↔ P' T) {z : Int32} {lo hi : Int64} (b : Bst mn pn P z lo hi) : Bst mn pn P' z lo hi := by
  rcases b with ⟨a, b⟩ | ⟨a, b, c, d⟩
  · exact Or.inl ⟨a, fun T hT => b T ((h T).mpr hT)⟩
  · exact Or.inr ⟨a, (h _).mp b, c, fun T hT => d T ((h T).mpr hT)⟩
/-- covers of lf with exactly rn candidates -/
def Cvn (mn : Nat) (cov : Nat → Int32) (lf : Int32) (rn : Nat) (T : Nat → Bool) : Prop := Cv mn cov lf T ∧ cnt T mn = rn
/-- no cover of lf has fewer than rn -/
def Tight (mn : Nat) (cov : Nat → Int32) (lf : Int32) (rn : Nat) : Prop := ∀ T, Cv mn cov lf T → rn ≤ cnt T mn
theorem ib_and (x y : Int32) (i : Nat) : ib (x &&& y) i = (ib x i && ib y i) := by simp [ib]
theorem ib_xor (x y : Int32) (i : Nat) : ib (x ^^^ y) i = (ib x i ^^ ib y i) := by simp [ib]
theorem ib_not (x : Int32) {i : Nat} (h : i < 32) : ib (x ^^^ (-1)) i = !ib x i := by
  have : ∀ j : Fin 32, ib (-1) j.val = true := by decide +kernel
  rw [ib_xor, this ⟨i, h⟩]; simp
theorem cnt_su {S : Nat → Bool} {i : Nat} {b : Bool} {n : Nat} (hi : i < n) : cnt (su S i b) n + (if S i = true then 1 else 0) = cnt S n + (if b = true then 1 else 0) := sw_su (w := fun _ => 1) hi
/-- with k, a cover of what k leaves is a cover -/
theorem cv_up {mn k : Nat} {cov : Nat → Int32} {lf : Int32} {A : Nat → Bool} (hk : k < mn) (h : Cv mn cov (lf &&& (cov k ^^^ (-1))) A) : Cv mn cov lf (su A k true) := by
  refine ⟨fun j hj => ?_, fun q hq hb => ?_⟩
  · by_cases e : j = k
    · omega
    · rw [su_n _ _ e] at hj; exact h.1 j hj
  · cases hc : ib (cov k) q with
    | true => exact ⟨k, hk, su_s _ _ _, hc⟩
    | false =>
      obtain ⟨j, a, b, c⟩ := h.2 q hq (by rw [ib_and, ib_not _ hq, hb, hc]; rfl)
      refine ⟨j, a, ?_, c⟩
      by_cases e : j = k
      · subst e; exact su_s _ _ _
      · rw [su_n _ _ e]; exact b
theorem cv_down {mn k : Nat} {cov : Nat → Int32} {lf : Int32} {T : Nat → Bool} (h : Cv mn cov lf T) : Cv mn cov (lf &&& (cov k ^^^ (-1))) (su T k false) := by
  refine ⟨fun j hj => ?_, fun q hq hb => ?_⟩
  · by_cases e : j = k
    · subst e; rw [su_s] at hj; cases hj
    · rw [su_n _ _ e] at hj; exact h.1 j hj
  · rw [ib_and, ib_not _ hq, Bool.and_eq_true, Bool.not_eq_true'] at hb
    obtain ⟨j, a, b, c⟩ := h.2 q hq hb.1
    have e : j ≠ k := fun e => by subst e; rw [hb.2] at c; cases c
    exact ⟨j, a, by rw [su_n _ _ e]; exact b, c⟩
theorem tight_sub {mn k rn : Nat} {cov : Nat → Int32} {lf : Int32} (hk : k < mn) (h : Tight mn cov lf rn) : Tight mn cov (lf &&& (cov k ^^^ (-1))) (rn - 1) := by
  intro A hA
  have h1 := h _ (cv_up hk hA)
  have h2 := cnt_su (S := A) (i := k) (b := true) hk
  cases hs : A k <;> rw [hs] at h2 <;> simp at h2 <;> omega
/-- what is left by k is covered without k -/
theorem not_in {mn k rn : Nat} {cov : Nat → Int32} {lf : Int32} (hk : k < mn) (ht : Tight mn cov (lf &&& (cov k ^^^ (-1))) rn) {A : Nat → Bool} (h : Cvn mn cov (lf &&& (cov k ^^^ (-1))) rn A) : A k = false := by
  cases hs : A k with
  | false => rfl
  | true =>
    exfalso
    have hc : Cv mn cov (lf &&& (cov k ^^^ (-1))) (su A k false) := by
      refine ⟨fun j hj => ?_, fun q hq hb => ?_⟩
      · by_cases e : j = k
        · subst e; rw [su_s] at hj; cases hj
        · rw [su_n _ _ e] at hj; exact h.1.1 j hj
      · obtain ⟨j, a, b, c⟩ := h.1.2 q hq hb
        rw [ib_and, ib_not _ hq, Bool.and_eq_true, Bool.not_eq_true'] at hb
        have e : j ≠ k := fun e => by subst e; rw [hb.2] at c; cases c
        exact ⟨j, a, by rw [su_n _ _ e]; exact b, c⟩
    have h1 := ht _ hc
    have h2 := cnt_su (S := A) (i := k) (b := false) hk
    rw [hs] at h2
    simp at h2
    have := h.2
    omega
theorem lex_su {S T : Nat → Bool} {k : Nat} (hs : S k = false) (ht : T k = false) : Lex (su S k true) (su T k true) ↔ Lex S T := by
  constructor
  · rintro ⟨d, a, b, c⟩
    have e : d ≠ k := fun e => by subst e; rw [su_s] at b; cases b
    rw [su_n _ _ e] at a b
    refine ⟨d, a, b, fun i hi => ?_⟩
    have := c i hi
    by_cases q : i = k
    · subst q; rw [hs, ht]
    · rw [su_n _ _ q, su_n _ _ q] at this; exact this
  · rintro ⟨d, a, b, c⟩
    have e : d ≠ k := fun e => by subst e; rw [hs] at a; cases a
    refine ⟨d, by rw [su_n _ _ e]; exact a, by rw [su_n _ _ e]; exact b, fun i hi => ?_⟩
    by_cases q : i = k
    · subst q; rw [su_s, su_s]
    · rw [su_n _ _ q, su_n _ _ q]; exact c i hi
