/-! there are never more than 54 candidates -/
def iset (k : Nat) : Nat := if k = 0 then 43690 else if k = 1 then 52428 else if k = 2 then 61680 else 65280
/-- the inputs for which product p is 1, a bit each -/
def W4 (p : Nat) : Nat := fo (fun k w => if p / 3 ^ k % 3 = 1 then w &&& iset k else if p / 3 ^ k % 3 = 2 then w &&& (65535 ^^^ iset k) else w) 4 65535
/-- product p without its part of input k -/
def wop (p k : Nat) : Nat := p - p / 3 ^ k % 3 * 3 ^ k
def cnt (P : Nat → Bool) (n : Nat) : Nat := sw (fun _ => 1) P n
/-- p is free of z, and with any part left out it isn't -/
def pr4 (z p : Nat) : Bool := decide (W4 p &&& z = 0) && !exn 4 (fun k => !decide (wop p k = p) && decide (W4 (wop p k) &&& z = 0))
def W3 (q : Nat) : Nat := W4 q % 256
def pr3 (z q : Nat) : Bool := decide (W3 q &&& z = 0) && !exn 3 (fun k => !decide (wop q k = q) && decide (W3 (wop q k) &&& z = 0))
set_option maxRecDepth 100000 in
theorem pr3_6 : ∀ z, z < 256 → cnt (pr3 z) 27 ≤ 6 := by decide +kernel
theorem sw_add (w : Nat) (P : Nat → Bool) (a b : Nat) : sw (fun _ => w) P (a + b) = sw (fun _ => w) P a + sw (fun _ => w) (fun i => P (a + i)) b := by
  induction b with
  | zero => rfl
  | succ b ih => rw [← Nat.add_assoc, sw, ih, sw, Nat.add_assoc]
theorem land_split (x z : Nat) : x &&& z = 0 ↔ (x / 256 &&& z / 256 = 0) ∧ (x % 256 &&& z % 256 = 0) := by
  have h1 : (x &&& z) / 256 = x / 256 &&& z / 256 := Nat.and_div_two_pow (n := 8)
  have h2 : (x &&& z) % 256 = x % 256 &&& z % 256 := Nat.and_mod_two_pow (n := 8)
  rw [← h1, ← h2]
  omega
theorem land_or0 (x a b : Nat) : x &&& (a ||| b) = 0 ↔ (x &&& a = 0) ∧ (x &&& b = 0) := by
  rw [Nat.and_or_distrib_left]
  constructor
  · intro h
    constructor
    · apply Nat.eq_of_testBit_eq; intro i
      have := congrArg (fun z => Nat.testBit z i) h
      simp only [Nat.testBit_or, Nat.zero_testBit, Bool.or_eq_false_iff] at this ⊢
      exact this.1
    · apply Nat.eq_of_testBit_eq; intro i
      have := congrArg (fun z => Nat.testBit z i) h
      simp only [Nat.testBit_or, Nat.zero_testBit, Bool.or_eq_false_iff] at this ⊢
      exact this.2
  · rintro ⟨h1, h2⟩; rw [h1, h2]; rfl
theorem w4_0 : ∀ q, q < 27 → W4 q / 256 = W3 q ∧ W4 q % 256 = W3 q := by decide +kernel
theorem w4_1 : ∀ q, q < 27 → W4 (27 + q) / 256 = W3 q ∧ W4 (27 + q) % 256 = 0 := by decide +kernel
theorem w4_2 : ∀ q, q < 27 → W4 (54 + q) / 256 = 0 ∧ W4 (54 + q) % 256 = W3 q := by decide +kernel
theorem wop_3 : ∀ q, q < 27 → ∀ k, k < 3 → wop q k < 27 ∧ wop (27 + q) k = 27 + wop q k ∧ wop (54 + q) k = 54 + wop q k := by decide +kernel
theorem pr4_to3 (z zz a : Nat) (ha : a = 0 ∨ a = 27 ∨ a = 54) (hz : ∀ q, q < 27 → (W4 (a + q) &&& z = 0 ↔ W3 q &&& zz = 0)) : cnt (fun q => pr4 z (a + q)) 27 ≤ cnt (pr3 zz) 27 := by
  refine sw_mono (fun q hq h => ?_)
  unfold pr4 at h
  unfold pr3
  rw [Bool.and_eq_true, decide_eq_true_eq, Bool.not_eq_true'] at h ⊢
  refine ⟨(hz q hq).mp h.1, exn_false (fun k hk => ?_)⟩
  have h2 : ¬ (exn 4 (fun k => !decide (wop (a + q) k = a + q) && decide (W4 (wop (a + q) k) &&& z = 0)) = true) := by rw [h.2]; simp
  rw [exn_iff] at h2
  obtain ⟨b1, b2, b3⟩ := wop_3 q hq k hk
  have e : wop (a + q) k = a + wop q k := by
    rcases ha with rfl | rfl | rfl
    · simp
    · exact b2
    · exact b3
  rw [Bool.eq_false_iff]
  intro h3
  apply h2
  refine ⟨k, by omega, ?_⟩
  rw [Bool.and_eq_true, Bool.not_eq_true', decide_eq_false_iff_not, decide_eq_true_eq] at h3 ⊢
  rw [e]
  exact ⟨by omega, (hz _ b1).mpr h3.2⟩
theorem pr4_18 {z : Nat} (hz : z < 65536) : cnt (pr4 z) 81 ≤ 18 := by
  have h0 := pr4_to3 z (z / 256 ||| z % 256) 0 (Or.inl rfl) (fun q hq => by
    rw [Nat.zero_add, land_split, (w4_0 q hq).1, (w4_0 q hq).2, land_or0])
  have h1 := pr4_to3 z (z / 256) 27 (Or.inr (Or.inl rfl)) (fun q hq => by
    rw [land_split, (w4_1 q hq).1, (w4_1 q hq).2]; simp)
  have h2 := pr4_to3 z (z % 256) 54 (Or.inr (Or.inr rfl)) (fun q hq => by
    rw [land_split, (w4_2 q hq).1, (w4_2 q hq).2]; simp)
  have m0 := pr3_6 (z / 256 ||| z % 256) (Nat.or_lt_two_pow (n := 8) (by omega) (by omega))
  have m1 := pr3_6 (z / 256) (by omega)
  have m2 := pr3_6 (z % 256) (by omega)
  have s1 : sw (fun _ => 1) (pr4 z) 81 = _ := sw_add 1 (pr4 z) 54 27
  have s2 : sw (fun _ => 1) (pr4 z) 54 = _ := sw_add 1 (pr4 z) 27 27
  unfold cnt at *
  simp only [Nat.zero_add] at h0
  have e : (fun q => pr4 z q) = pr4 z := rfl
  rw [e] at h0
  omega
