/-! the reference's memo: a table of 65536 places, told by left and room -/
/-- the first place below n with P, or n -/
def fi (P : Nat → Bool) : Nat → Nat
  | 0 => 0
  | n + 1 => if fi P n < n then fi P n else if P n = true then n else n + 1
theorem fi_le (P : Nat → Bool) : ∀ n, fi P n ≤ n := by
  intro n
  induction n with
  | zero => exact Nat.le_refl 0
  | succ n ih => rw [fi]; split <;> (try split) <;> omega
theorem fi_no (P : Nat → Bool) : ∀ n a, a < fi P n → P a = false := by
  intro n
  induction n with
  | zero => intro a h; exact absurd h (Nat.not_lt_zero _)
  | succ n ih =>
    intro a h
    have hl := fi_le P n
    rw [fi] at h
    split at h
    · exact ih a h
    · split at h
      · exact ih a (by omega)
      · rename_i h1 h2
        by_cases ha : a < n
        · exact ih a (by omega)
        · have : a = n := by omega
          subst this; simpa using h2
theorem fi_yes (P : Nat → Bool) : ∀ n, fi P n < n → P (fi P n) = true := by
  intro n
  induction n with
  | zero => intro h; exact absurd h (Nat.not_lt_zero _)
  | succ n ih =>
    intro h
    rw [fi] at h ⊢
    split
    · rename_i h1; exact ih h1
    · rename_i h1
      rw [if_neg h1] at h
      split
      · rename_i h2; exact h2
      · rename_i h2; rw [if_neg h2] at h; omega
theorem fi_stop {P : Nat → Bool} (n : Nat) {j : Nat} (h : P j = true) : fi P n ≤ j := by
  rcases Nat.lt_or_ge j (fi P n) with q | q
  · rw [fi_no P n j q] at h; cases h
  · exact q
theorem fi_go {P : Nat → Bool} {n j : Nat} (hs : ∃ j, j < n ∧ P j = true) (h : P j = false) (hl : j ≤ fi P n) : j < fi P n := by
  rcases Nat.lt_or_ge j (fi P n) with q | q
  · exact q
  · obtain ⟨k, hk, hp⟩ := hs
    have h1 := fi_stop n hp
    have h2 := fi_yes P n (by omega)
    have : fi P n = j := by omega
    rw [this, h] at h2; cases h2
def mo_hx (lf rr : Int32) : Int32 := (lf * 40503 ^^^ (lf.toUInt32 >>> ((13 : Int32).toUInt32 &&& Int32.toUInt32 31)).toInt32) ^^^ rr * 7919
def mo_h (lf rr : Int32) : Nat := (mo_hx lf rr).toBitVec.toNat % 2 ^ 16
/-- the search for (lf, rr) stops at its j-th place -/
def mo_sp (th le ro : Nat → Int32) (lf rr : Int32) (j : Nat) : Bool := decide (th ((mo_h lf rr + j) % 65536) = 0) || (decide (le ((mo_h lf rr + j) % 65536) = lf) && decide (ro ((mo_h lf rr + j) % 65536) = rr))
def mo_at (th le ro : Nat → Int32) (lf rr : Int32) : Nat := (mo_h lf rr + fi (mo_sp th le ro lf rr) 65536) % 65536
/-- there, lefts, rooms, sizes, lows, highs, how many are kept -/
abbrev MT : Type := (Nat → Int32) × (Nat → Int32) × (Nat → Int32) × (Nat → Int32) × (Nat → Int64) × (Nat → Int64) × Nat
def mo_keep (lf rr z : Int32) (lo hi : Int64) (t : MT) : MT := if t.2.2.2.2.2.2 < 32768 then (upd t.1 (mo_at t.1 t.2.1 t.2.2.1 lf rr) 1, upd t.2.1 (mo_at t.1 t.2.1 t.2.2.1 lf rr) lf, upd t.2.2.1 (mo_at t.1 t.2.1 t.2.2.1 lf rr) rr, upd t.2.2.2.1 (mo_at t.1 t.2.1 t.2.2.1 lf rr) z, vp_updL t.2.2.2.2.1 (mo_at t.1 t.2.1 t.2.2.1 lf rr) lo, vp_updL t.2.2.2.2.2.1 (mo_at t.1 t.2.1 t.2.2.1 lf rr) hi, t.2.2.2.2.2.2 + 1) else t
theorem mo_keep_t {lf rr z : Int32} {lo hi : Int64} {t : MT} (h : t.2.2.2.2.2.2 < 32768) : mo_keep lf rr z lo hi t = (upd t.1 (mo_at t.1 t.2.1 t.2.2.1 lf rr) 1, upd t.2.1 (mo_at t.1 t.2.1 t.2.2.1 lf rr) lf, upd t.2.2.1 (mo_at t.1 t.2.1 t.2.2.1 lf rr) rr, upd t.2.2.2.1 (mo_at t.1 t.2.1 t.2.2.1 lf rr) z, vp_updL t.2.2.2.2.1 (mo_at t.1 t.2.1 t.2.2.1 lf rr) lo, vp_updL t.2.2.2.2.2.1 (mo_at t.1 t.2.1 t.2.2.1 lf rr) hi, t.2.2.2.2.2.2 + 1) := if_pos h
theorem mo_keep_f {lf rr z : Int32} {lo hi : Int64} {t : MT} (h : 32768 ≤ t.2.2.2.2.2.2) : mo_keep lf rr z lo hi t = t := if_neg (Nat.not_lt.mpr h)
theorem mo_at_lt (th le ro : Nat → Int32) (lf rr : Int32) : mo_at th le ro lf rr < 65536 := Nat.mod_lt _ (by decide)
