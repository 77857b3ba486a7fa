/-! products as numbers -/
def tpow (j : Nat) : Nat := 3 ^ j
theorem tpow_pos (k : Nat) : 0 < tpow k := Nat.pow_pos (by decide)
theorem tpow_lt {k : Nat} (h : k < 4) : tpow k < 2 ^ 31 := by
  have : ∀ k, k < 4 → tpow k < 2 ^ 31 := by decide
  exact this k h
theorem tpow_81 {k : Nat} (h : k ≤ 4) : tpow k ≤ 81 := by
  have : ∀ k, k < 5 → tpow k ≤ 81 := by decide
  exact this k (by omega)
theorem div_lt {p d : Nat} (h : p < 81) : p / d < 2 ^ 31 := Nat.lt_of_le_of_lt (Nat.div_le_self p d) (by omega)
theorem wop_le (p k : Nat) : p / tpow k % 3 * tpow k ≤ p :=
  Nat.le_trans (Nat.mul_le_mul_right _ (Nat.mod_le _ _)) (Nat.div_mul_le_self p (tpow k))
theorem wop_le2 (p k : Nat) : wop p k ≤ p := Nat.sub_le _ _
def mc_dsf (pn : Nat) : Nat → Nat × Nat → Nat × Nat := fun k a => if pn / 3 ^ k % 3 = 1 then (a.1 &&& iset k, a.2 + 1) else if pn / 3 ^ k % 3 = 2 then (a.1 &&& (65535 ^^^ iset k), a.2 + 1) else a
theorem nI_and (a b : Nat) : nI a &&& nI b = nI (a &&& b) := by
  apply Int32.toBitVec_inj.1
  apply BitVec.eq_of_getLsbD_eq
  intro i hi
  show ((BitVec.ofNat 32 a) &&& (BitVec.ofNat 32 b)).getLsbD i = (BitVec.ofNat 32 (a &&& b)).getLsbD i
  simp [BitVec.getLsbD_ofNat, Nat.testBit_and, hi]
theorem nI_xor (a b : Nat) : nI a ^^^ nI b = nI (a ^^^ b) := by
  apply Int32.toBitVec_inj.1
  apply BitVec.eq_of_getLsbD_eq
  intro i hi
  show ((BitVec.ofNat 32 a) ^^^ (BitVec.ofNat 32 b)).getLsbD i = (BitVec.ofNat 32 (a ^^^ b)).getLsbD i
  simp [BitVec.getLsbD_ofNat, Nat.testBit_xor, hi]
theorem nI_or (a b : Nat) : nI a ||| nI b = nI (a ||| b) := by
  apply Int32.toBitVec_inj.1
  apply BitVec.eq_of_getLsbD_eq
  intro i hi
  show ((BitVec.ofNat 32 a) ||| (BitVec.ofNat 32 b)).getLsbD i = (BitVec.ofNat 32 (a ||| b)).getLsbD i
  simp [BitVec.getLsbD_ofNat, Nat.testBit_or, hi]
theorem land_cut {a : Nat} (h : a < 65536) (b : Nat) : a &&& (b ^^^ 4294967295) = a &&& (65535 ^^^ b) := by
  apply Nat.eq_of_testBit_eq
  intro i
  rw [Nat.testBit_and, Nat.testBit_and, Nat.testBit_xor, Nat.testBit_xor]
  rcases Nat.lt_or_ge i 16 with hi | hi
  · rw [show (4294967295 : Nat) = 2 ^ 32 - 1 from rfl, show (65535 : Nat) = 2 ^ 16 - 1 from rfl, Nat.testBit_two_pow_sub_one, Nat.testBit_two_pow_sub_one]
    have : decide (i < 32) = true := decide_eq_true (by omega)
    rw [this, decide_eq_true hi]
    cases Nat.testBit b i <;> rfl
  · rw [Nat.testBit_lt_two_pow (x := a) (i := i) (Nat.lt_of_lt_of_le h (show 65536 ≤ 2 ^ i from Nat.pow_le_pow_right (n := 2) (by decide) hi))]
    rfl
theorem ds_not {a : Nat} (h : a < 65536) (b : Nat) : nI a &&& (nI b ^^^ (-1)) = nI (a &&& (65535 ^^^ b)) := by
  rw [show (-1 : Int32) = nI 4294967295 from rfl, nI_xor, nI_and, land_cut h]
theorem ds_back {pn kv : Nat} (h1 : (fo (mc_dsf pn) kv (65535, 0)).1 < 65536) (h2 : (fo (mc_dsf pn) kv (65535, 0)).2 ≤ kv) : (fo (mc_dsf pn) (kv + 1) (65535, 0)).1 < 65536 ∧ (fo (mc_dsf pn) (kv + 1) (65535, 0)).2 ≤ kv + 1 := by
  rw [fo_s]
  generalize fo (mc_dsf pn) kv (65535, 0) = a at h1 h2 ⊢
  unfold mc_dsf
  have b1 : ∀ z, a.1 &&& z ≤ a.1 := fun z => Nat.and_le_left
  split
  · exact ⟨Nat.lt_of_le_of_lt (b1 _) h1, by show a.2 + 1 ≤ kv + 1; omega⟩
  · split
    · exact ⟨Nat.lt_of_le_of_lt (b1 _) h1, by show a.2 + 1 ≤ kv + 1; omega⟩
    · exact ⟨h1, by omega⟩
