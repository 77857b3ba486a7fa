/-! every place that is 1 is served by some candidate -/
/-- the product of all inputs that is 1 for x alone -/
def pxx (n x : Nat) : Nat := fo (fun k a => a + (if x.testBit k = true then 1 else 2) * 3 ^ k) n 0
theorem pxx_ok : ∀ n, n < 5 → ∀ x, x < 2 ^ n → pxx n x < 3 ^ n ∧ W4 (pxx n x) % 2 ^ 2 ^ n = 2 ^ x := by decide +kernel
theorem w4_mono {p k x : Nat} (hp : p < 81) (hk : k < 4) (h : (W4 p).testBit x = true) : (W4 (wop p k)).testBit x = true := by
  rw [← w4_wider p hp k hk, Nat.testBit_and, Bool.and_eq_true] at h
  exact h.2
theorem land_mod {w z m : Nat} (hz : z < 2 ^ m) : w &&& z = w % 2 ^ m &&& z := by
  apply Nat.eq_of_testBit_eq
  intro i
  rw [Nat.testBit_and, Nat.testBit_and, Nat.testBit_mod_two_pow]
  rcases Nat.lt_or_ge i m with h | h
  · simp [h]
  · rw [Nat.testBit_lt_two_pow (Nat.lt_of_lt_of_le hz (Nat.pow_le_pow_right (n := 2) (by decide) h))]; simp
theorem pow2_land {x z : Nat} (h : z.testBit x = false) : 2 ^ x &&& z = 0 := by
  apply Nat.eq_of_testBit_eq
  intro i
  rw [Nat.testBit_and, Nat.testBit_two_pow, Nat.zero_testBit]
  by_cases hi : x = i
  · subst hi; rw [h]; simp
  · simp [hi]
/-- a least product that is 1 for x and of output o is a candidate -/
theorem cand_ex {ze : Nat → Nat} {mo n o x : Nat} (hn : n < 5) (ho : o < mo) (ho2 : o < 2) (hx : x < 2 ^ n) (hz : ze o < 2 ^ 2 ^ n) (hb : (ze o).testBit x = false) : ∃ p, p < 3 ^ n ∧ candN ze mo p = true ∧ (W4 p).testBit x = true ∧ (outsN (W4 p) ze mo).testBit o = true := by
  have h81 : 3 ^ n ≤ 81 := by
    have : ∀ n, n < 5 → 3 ^ n ≤ 81 := by decide
    exact this n hn
  obtain ⟨a1, a2⟩ := pxx_ok n hn x hx
  have hxn : x < 2 ^ n := hx
  have ex : ∃ p, p < 3 ^ n ∧ (W4 p).testBit x = true ∧ W4 p &&& ze o = 0 := by
    refine ⟨pxx n x, a1, ?_, ?_⟩
    · have h1 : (W4 (pxx n x) % 2 ^ 2 ^ n).testBit x = true := by rw [a2, Nat.testBit_two_pow_self]
      rw [Nat.testBit_mod_two_pow, Bool.and_eq_true] at h1
      exact h1.2
    · rw [land_mod hz, a2]; exact pow2_land hb
  obtain ⟨p, ⟨p1, p2, p3⟩, p4⟩ := pk_least (fun p => p < 3 ^ n ∧ (W4 p).testBit x = true ∧ W4 p &&& ze o = 0) ex
  have hbit : (outsN (W4 p) ze mo).testBit o = true := by
    rw [outsN_bit _ _ _ ho2, decide_eq_true ho, decide_eq_true p3]; rfl
  refine ⟨p, p1, ?_, p2, hbit⟩
  unfold candN
  have h0 : outsN (W4 p) ze mo ≠ 0 := fun h => by rw [h, Nat.zero_testBit] at hbit; cases hbit
  rw [decide_eq_false h0, exn_false (fun k hk => ?_)]
  · rfl
  · rw [Bool.eq_false_iff]
    intro q
    rw [Bool.and_eq_true, Bool.not_eq_true', decide_eq_false_iff_not, decide_eq_true_eq] at q
    have hlt : wop p k < p := Nat.lt_of_le_of_ne (wop_le2 p k) q.1
    apply p4 (wop p k) hlt
    refine ⟨by omega, w4_mono (by omega) hk p2, ?_⟩
    have hb2 := hbit
    rw [← q.2, outsN_bit _ _ _ ho2, Bool.and_eq_true, decide_eq_true_eq, decide_eq_true_eq] at hb2
    exact hb2.2
