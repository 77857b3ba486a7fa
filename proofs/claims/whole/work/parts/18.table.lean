/-! the table of candidates, place by place -/
theorem cnt_s (P : Nat → Bool) (n : Nat) : cnt P (n + 1) = cnt P n + (if P n = true then 1 else 0) := rfl
theorem cnt_le (P : Nat → Bool) {a b : Nat} (h : a ≤ b) : cnt P a ≤ cnt P b := by
  induction b with
  | zero => have : a = 0 := by omega
            subst this; exact Nat.le_refl _
  | succ b ih =>
    rw [cnt_s]
    by_cases h1 : a = b + 1
    · subst h1; rw [cnt_s]; exact Nat.le_refl _
    · have := ih (by omega); omega
theorem cnt_lt {P : Nat → Bool} {p n : Nat} (h : p < n) (hp : P p = true) : cnt P p < cnt P n := by
  have h1 := cnt_le P (show p + 1 ≤ n from h)
  rw [cnt_s, if_pos hp] at h1
  omega
theorem cnt_inj {P : Nat → Bool} {p q : Nat} (hp : P p = true) (hq : P q = true) (h : cnt P p = cnt P q) : p = q := by
  rcases Nat.lt_trichotomy p q with g | g | g
  · have := cnt_lt g hp; omega
  · exact g
  · have := cnt_lt g hq; omega
theorem cnt_surj {P : Nat → Bool} {i : Nat} : ∀ {n : Nat}, i < cnt P n → ∃ p, p < n ∧ P p = true ∧ cnt P p = i := by
  intro n
  induction n with
  | zero => intro h; exact absurd h (Nat.not_lt_zero _)
  | succ n ih =>
    intro h
    rw [cnt_s] at h
    by_cases hi : i < cnt P n
    · obtain ⟨p, h1, h2, h3⟩ := ih hi
      exact ⟨p, by omega, h2, h3⟩
    · by_cases hp : P n = true
      · rw [if_pos hp] at h
        exact ⟨n, by omega, hp, by omega⟩
      · rw [if_neg hp] at h; omega
theorem cnt_bound (P : Nat → Bool) (n : Nat) : cnt P n ≤ n := by
  have := sw_le (w := fun _ => 1) (S := P) (n := n) (m := 1) (fun _ _ => Nat.le_refl 1)
  unfold cnt; omega
theorem fill_ok (one pin psz oop : Nat → Int32) (num out siz inp : Nat → Int32) (pla : Nat → Int64) : ∀ n, (fo (mc_filf one pin psz oop) n (0, num, out, siz, inp, pla)).1 = cnt (mc_isc oop) n ∧ ∀ p, p < n → mc_isc oop p = true →
    (fo (mc_filf one pin psz oop) n (0, num, out, siz, inp, pla)).2.1 (cnt (mc_isc oop) p) = nI p ∧ (fo (mc_filf one pin psz oop) n (0, num, out, siz, inp, pla)).2.2.1 (cnt (mc_isc oop) p) = oop p ∧ (fo (mc_filf one pin psz oop) n (0, num, out, siz, inp, pla)).2.2.2.1 (cnt (mc_isc oop) p) = psz p ∧ (fo (mc_filf one pin psz oop) n (0, num, out, siz, inp, pla)).2.2.2.2.1 (cnt (mc_isc oop) p) = pin p ∧ (fo (mc_filf one pin psz oop) n (0, num, out, siz, inp, pla)).2.2.2.2.2 (cnt (mc_isc oop) p) = mc_pla one (pin p) (oop p) := by
  intro n
  induction n with
  | zero => exact ⟨rfl, fun p h => absurd h (Nat.not_lt_zero _)⟩
  | succ n ih =>
    obtain ⟨h1, h2⟩ := ih
    rw [fo_s]
    generalize fo (mc_filf one pin psz oop) n (0, num, out, siz, inp, pla) = a at h1 h2 ⊢
    cases hn : mc_isc oop n with
    | true =>
      rw [mc_filf_t hn, cnt_s, if_pos hn]
      refine ⟨by show a.1 + 1 = _; rw [h1], fun p hp hq => ?_⟩
      show upd a.2.1 a.1 (nI n) _ = _ ∧ upd a.2.2.1 a.1 (oop n) _ = _ ∧ upd a.2.2.2.1 a.1 (psz n) _ = _ ∧ upd a.2.2.2.2.1 a.1 (pin n) _ = _ ∧ vp_updL a.2.2.2.2.2 a.1 (mc_pla one (pin n) (oop n)) _ = _
      rw [h1]
      by_cases hpn : p = n
      · subst hpn
        exact ⟨pk_us, pk_us, pk_us, pk_us, pk_uLs⟩
      · have hne : cnt (mc_isc oop) p ≠ cnt (mc_isc oop) n := fun h => hpn (cnt_inj hq hn h)
        rw [pk_un hne, pk_un hne, pk_un hne, pk_un hne, pk_uLn hne]
        exact h2 p (by omega) hq
    | false =>
      rw [mc_filf_f hn, cnt_s, if_neg (by rw [hn]; decide)]
      refine ⟨h1, fun p hp hq => ?_⟩
      have hpn : p ≠ n := fun h => by subst h; rw [hn] at hq; cases hq
      exact h2 p (by omega) hq
theorem oof_at {pin zer oop : Nat → Int32} {mo : Nat} : ∀ n p, p < n → (fo (mc_oof pin zer mo) n oop) p = fo (mc_outf (pin p) zer) mo 0 := by
  intro n
  induction n with
  | zero => intro p h; omega
  | succ n ih =>
    intro p h
    rw [fo_s]
    unfold mc_oof
    by_cases hq : p = n
    · subst hq; exact pk_us
    · rw [pk_un hq]
      exact ih p (by omega)
