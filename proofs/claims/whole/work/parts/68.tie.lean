/-! the reference's candidates are the class's -/
theorem ds_ok : ∀ p, p < 81 → (fo (mc_dsf p) 4 (65535, 0)).1 = W4 p ∧ (fo (mc_dsf p) 4 (65535, 0)).2 ≤ 4 := by decide +kernel
theorem pa_ok : ∀ n, n < 5 → ∀ p, p < 3 ^ n → mo_pa n p = (fo (mc_dsf p) 4 (65535, 0)).2 := by decide +kernel
theorem on_ok : ∀ n, n < 5 → ∀ p, p < 3 ^ n → mo_on n p = nI (W4 p % 2 ^ 2 ^ n) := by decide +kernel
theorem pp_16 {n : Nat} (h : n < 5) : 2 ^ 2 ^ n ≤ 65536 := by
  have : ∀ n, n < 5 → 2 ^ 2 ^ n ≤ 65536 := by decide +kernel
  exact this n h
/-- the inputs for which an output is 0 -/
def zeN (n : Nat) (on an : Nat → Nat) (o : Nat) : Nat := (2 ^ 2 ^ n - 1) &&& (65535 ^^^ (on o ||| an o))
theorem zeN_lt {n : Nat} (on an : Nat → Nat) (o : Nat) : zeN n on an o < 2 ^ 2 ^ n := by
  have h1 : zeN n on an o ≤ 2 ^ 2 ^ n - 1 := Nat.and_le_left
  have h2 : 0 < 2 ^ 2 ^ n := Nat.pow_pos (by decide)
  omega
theorem out_ok {n mo p : Nat} {one any : Nat → Int32} {on an : Nat → Nat} (hn : n < 5) (hp : p < 3 ^ n) (hm : mo ≤ 2) (h : ∀ o, o < 2 → one o = nI (on o) ∧ any o = nI (an o)) : mo_out n mo one any p = nI (outsN (W4 p) (zeN n on an) mo) := by
  have hw : W4 p % 2 ^ 2 ^ n < 65536 := Nat.lt_of_lt_of_le (Nat.mod_lt _ (Nat.pow_pos (by decide))) (pp_16 hn)
  have t : ∀ o, o < 2 → (mo_on n p &&& ((one o ||| any o) ^^^ (-1)) = 0 ↔ W4 p &&& zeN n on an o = 0) := fun o ho => by
    obtain ⟨e1, e2⟩ := h o ho
    have hl : W4 p % 2 ^ 2 ^ n &&& (65535 ^^^ (on o ||| an o)) ≤ W4 p % 2 ^ 2 ^ n := Nat.and_le_left
    rw [on_ok n hn p hp, e1, e2, nI_or, ds_not hw, show (0 : Int32) = nI 0 from rfl, nI_eq (by omega) (by decide)]
    unfold zeN
    rw [← Nat.and_assoc, Nat.and_two_pow_sub_one_eq_mod]
  have t0 := t 0 (by decide)
  have t1 := t 1 (by decide)
  unfold mo_out outsN
  rcases (show mo = 0 ∨ mo = 1 ∨ mo = 2 by omega) with rfl | rfl | rfl
  · rfl
  · rw [fo_s, fo_0]; unfold mo_ouf
    by_cases h0 : W4 p &&& zeN n on an 0 = 0
    · rw [if_pos (t0.mpr h0), if_pos ⟨by decide, h0⟩, if_neg (fun q => absurd q.1 (by decide))]; rfl
    · rw [if_neg (fun q => h0 (t0.mp q)), if_neg (fun q => h0 q.2), if_neg (fun q => absurd q.1 (by decide))]; rfl
  · rw [fo_s, fo_s, fo_0]; unfold mo_ouf
    by_cases h0 : W4 p &&& zeN n on an 0 = 0
    · rw [if_pos (t0.mpr h0), if_pos (c := 0 < 2 ∧ W4 p &&& zeN n on an 0 = 0) ⟨by decide, h0⟩]
      by_cases h1 : W4 p &&& zeN n on an 1 = 0
      · rw [if_pos (t1.mpr h1), if_pos ⟨by decide, h1⟩]; rfl
      · rw [if_neg (fun q => h1 (t1.mp q)), if_neg (fun q => h1 q.2)]; rfl
    · rw [if_neg (fun q => h0 (t0.mp q)), if_neg (c := 0 < 2 ∧ W4 p &&& zeN n on an 0 = 0) (fun q => h0 q.2)]
      by_cases h1 : W4 p &&& zeN n on an 1 = 0
      · rw [if_pos (t1.mpr h1), if_pos ⟨by decide, h1⟩]; rfl
      · rw [if_neg (fun q => h1 (t1.mp q)), if_neg (fun q => h1 q.2)]; rfl
theorem dig_high : ∀ n, n < 5 → ∀ p, p < 3 ^ n → ∀ k, k < 4 → n ≤ k → wop p k = p := by decide +kernel
theorem dig_0 : ∀ p, p < 81 → ∀ k, k < 4 → (wop p k = p ↔ p / 3 ^ k % 3 = 0) := by decide +kernel
theorem ca_ok {n mo p : Nat} {one any : Nat → Int32} {on an : Nat → Nat} (hn : n < 5) (hp : p < 3 ^ n) (hm : mo ≤ 2) (h : ∀ o, o < 2 → one o = nI (on o) ∧ any o = nI (an o)) : mo_ca n mo one any p = candN (zeN n on an) mo p := by
  have lt : ∀ q, outsN (W4 q) (zeN n on an) mo < 2 ^ 31 := fun q => Nat.lt_trans (outsN_lt _ _ _) (by decide)
  have h81 : 3 ^ n ≤ 81 := pow3_le (by omega)
  have e0 : decide (mo_out n mo one any p = 0) = decide (outsN (W4 p) (zeN n on an) mo = 0) := by
    rw [out_ok hn hp hm h, show (0 : Int32) = nI 0 from rfl]
    exact decide_eq_decide.mpr (nI_eq (lt p) (by decide))
  have fold : ∀ j, j ≤ n → fo (mo_caf n mo one any p) j (!decide (mo_out n mo one any p = 0)) = (!decide (outsN (W4 p) (zeN n on an) mo = 0) && !exn j (fun k => !decide (wop p k = p) && decide (outsN (W4 (wop p k)) (zeN n on an) mo = outsN (W4 p) (zeN n on an) mo))) := by
    intro j
    induction j with
    | zero => intro _; rw [fo_0, e0]; simp [exn, fo]
    | succ j ih =>
      intro hj
      rw [fo_s, mo_caf_s, ih (by omega)]
      have hw : p - p / 3 ^ j % 3 * 3 ^ j < 3 ^ n := Nat.lt_of_le_of_lt (Nat.sub_le _ _) hp
      have e1 : decide (mo_out n mo one any (p - p / 3 ^ j % 3 * 3 ^ j) = mo_out n mo one any p) = decide (outsN (W4 (wop p j)) (zeN n on an) mo = outsN (W4 p) (zeN n on an) mo) := by
        rw [out_ok hn hw hm h, out_ok hn hp hm h]
        exact decide_eq_decide.mpr (nI_eq (lt _) (lt _))
      have e2 : decide (p / 3 ^ j % 3 = 0) = decide (wop p j = p) := decide_eq_decide.mpr (dig_0 p (by omega) j (by omega)).symm
      rw [e1, e2]
      show _ = (!decide (outsN (W4 p) (zeN n on an) mo = 0) && !(exn j _ || (!decide (wop p j = p) && decide (outsN (W4 (wop p j)) (zeN n on an) mo = outsN (W4 p) (zeN n on an) mo))))
      generalize exn j _ = A
      generalize decide (wop p j = p) = B
      generalize decide (outsN (W4 (wop p j)) (zeN n on an) mo = outsN (W4 p) (zeN n on an) mo) = C
      generalize decide (outsN (W4 p) (zeN n on an) mo = 0) = E
      cases A <;> cases B <;> cases C <;> cases E <;> rfl
  unfold mo_ca
  rw [fold n (Nat.le_refl n)]
  unfold candN
  congr 2
  cases hx : exn n (fun k => !decide (wop p k = p) && decide (outsN (W4 (wop p k)) (zeN n on an) mo = outsN (W4 p) (zeN n on an) mo)) with
  | true =>
    obtain ⟨k, a, b⟩ := (exn_iff _ _).mp hx
    exact (exn_true (show k < 4 by omega) b).symm
  | false =>
    refine (exn_false (fun k hk => ?_)).symm
    rcases Nat.lt_or_ge k n with q | q
    · rw [Bool.eq_false_iff]
      intro hy
      rw [exn_true q hy] at hx; cases hx
    · rw [decide_eq_true (dig_high n hn p hp k hk q)]; rfl
