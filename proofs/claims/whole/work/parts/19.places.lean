/-! places: output o at inputs x is bit 16 * o + x -/
theorem zb_lN {a : Nat} (h : a < 2 ^ 64) (j : Nat) : zb (lN a) j = a.testBit j := by
  show (BitVec.ofNat 64 a).getLsbD j = _
  rw [BitVec.getLsbD_ofNat]
  rcases Nat.lt_or_ge j 64 with hj | hj
  · simp [hj]
  · rw [Nat.testBit_lt_two_pow (Nat.lt_of_lt_of_le h (Nat.pow_le_pow_right (n := 2) (by decide) hj))]
    simp
theorem zb_nI {a : Nat} (h : a < 2 ^ 31) (j : Nat) : zb (nI a).toInt64 j = a.testBit j := by
  rw [nI_l h, zb_lN (Nat.lt_trans h (by decide))]
theorem zb_shl (x : Int64) {k : Nat} (hk : k < 64) {j : Nat} (hj : j < 64) : zb (x <<< ((nI k).toInt64 &&& 63)) j = (!decide (j < k) && zb x (j - k)) := by
  unfold zb
  rw [Int64.toBitVec_shiftLeft, zb_c k hk]
  have e : (BitVec.ofNat 64 k).toNat = k := by simp; omega
  rw [BitVec.shiftLeft_eq', e, BitVec.getLsbD_shiftLeft]
  simp [hj]
/-- (v >> o & 1) == 0, of a small number -/
theorem bit_test {v o : Nat} (hv : v < 2 ^ 31) (ho : o < 31) : (nI v >>> (nI o &&& 31)) &&& 1 = 0 ↔ v.testBit o = false := by
  have hs : ∀ o, o < 31 → ((nI o &&& 31).toBitVec.smod 32).toNat = o := by decide +kernel
  rw [pk_shrN hv (nI o &&& 31) o (hs o ho), pk_andN (m := 1) (Nat.lt_of_le_of_lt (Nat.div_le_self _ _) (by omega)) 1 rfl]
  have h2 : v / 2 ^ o % 2 ^ 1 < 2 ^ 31 := Nat.lt_of_lt_of_le (Nat.mod_lt _ (by decide)) (by decide)
  rw [show (0 : Int32) = nI 0 from rfl, nI_eq h2 (by decide)]
  rw [Nat.testBit_eq_decide_div_mod_eq]
  simp only [decide_eq_false_iff_not]
  have : v / 2 ^ o % 2 ^ 1 = v / 2 ^ o % 2 := rfl
  omega
theorem plf_bits {on : Nat → Nat} {one : Nat → Int32} (h : ∀ o, o < 2 → one o = nI (on o) ∧ on o < 65536) {v : Nat} (hv : v < 2 ^ 31) {o x : Nat} (ho : o < 2) (hx : x < 16) : zb (fo (mc_plf one (nI v)) 2 0) (16 * o + x) = (v.testBit o && (on o).testBit x) := by
  obtain ⟨e0, b0⟩ := h 0 (by decide)
  obtain ⟨e1, b1⟩ := h 1 (by decide)
  have t0 := bit_test (v := v) (o := 0) hv (by decide)
  have t1 := bit_test (v := v) (o := 1) hv (by decide)
  have big : ∀ (a j : Nat), a < 65536 → 16 ≤ j → a.testBit j = false := fun a j h1 h2 => Nat.testBit_lt_two_pow (Nat.lt_of_lt_of_le h1 (Nat.pow_le_pow_right (n := 2) (by decide) h2))
  have z0 : ∀ j, j < 64 → zb (fo (mc_plf one (nI v)) 1 0) j = (v.testBit 0 && (on 0).testBit j) := by
    intro j hj
    rw [fo_s, fo_0]
    unfold mc_plf
    cases hb : v.testBit 0 with
    | false => rw [if_pos (t0.mpr hb), zb_0]; rfl
    | true =>
      rw [if_neg (fun q => by rw [t0.mp q] at hb; cases hb), zb_or, zb_0, e0, zb_shl _ (by decide) hj, zb_nI (by omega)]
      simp
  rw [fo_s]
  have key : zb (mc_plf one (nI v) 1 (fo (mc_plf one (nI v)) 1 0)) (16 * o + x) = (zb (fo (mc_plf one (nI v)) 1 0) (16 * o + x) || (v.testBit 1 && (!decide (16 * o + x < 16) && (on 1).testBit (16 * o + x - 16)))) := by
    generalize fo (mc_plf one (nI v)) 1 0 = a
    unfold mc_plf
    cases hb : v.testBit 1 with
    | false => rw [if_pos (t1.mpr hb)]; simp
    | true =>
      rw [if_neg (fun q => by rw [t1.mp q] at hb; cases hb), zb_or, e1, zb_shl _ (by decide) (by omega), zb_nI (by omega)]
      simp
  rw [key, z0 _ (by omega)]
  rcases (show o = 0 ∨ o = 1 by omega) with rfl | rfl
  · have : decide (16 * 0 + x < 16) = true := decide_eq_true (by omega)
    rw [this]; simp
  · have : decide (16 * 1 + x < 16) = false := decide_eq_false (by omega)
    rw [this, big (on 0) _ b0 (by omega), show 16 * 1 + x - 16 = x by omega]; simp
theorem plf_high {on : Nat → Nat} {one : Nat → Int32} (h : ∀ o, o < 2 → one o = nI (on o) ∧ on o < 65536) {v : Nat} (hv : v < 2 ^ 31) {j : Nat} (hj : 32 ≤ j) : zb (fo (mc_plf one (nI v)) 2 0) j = false := by
  rcases Nat.lt_or_ge j 64 with h64 | h64
  · obtain ⟨e0, b0⟩ := h 0 (by decide)
    obtain ⟨e1, b1⟩ := h 1 (by decide)
    have big : ∀ (a j : Nat), a < 65536 → 16 ≤ j → a.testBit j = false := fun a j h1 h2 => Nat.testBit_lt_two_pow (Nat.lt_of_lt_of_le h1 (Nat.pow_le_pow_right (n := 2) (by decide) h2))
    have z0 : zb (fo (mc_plf one (nI v)) 1 0) j = false := by
      rw [fo_s, fo_0]
      unfold mc_plf
      split
      · exact zb_0 j
      · rw [zb_or, zb_0, e0, zb_shl _ (by decide) h64, zb_nI (by omega), big _ _ b0 (by omega)]; simp
    rw [fo_s]
    generalize fo (mc_plf one (nI v)) 1 0 = a at z0 ⊢
    unfold mc_plf
    split
    · exact z0
    · rw [zb_or, z0, e1, zb_shl _ (by decide) h64, zb_nI (by omega), big _ _ b1 (by omega)]; simp
  · exact zb_ge h64
theorem pla_bits {on : Nat → Nat} {one : Nat → Int32} (h : ∀ o, o < 2 → one o = nI (on o) ∧ on o < 65536) {w v : Nat} (hw : w < 65536) (hv : v < 2 ^ 31) {o x : Nat} (ho : o < 2) (hx : x < 16) : zb (mc_pla one (nI w) (nI v)) (16 * o + x) = (w.testBit x && (v.testBit o && (on o).testBit x)) := by
  unfold mc_pla
  rw [zb_and, plf_bits h hv ho hx, zb_or, show (16 : Int32) = nI 16 from rfl, zb_shl _ (by decide) (by omega), zb_nI (by omega), zb_nI (by omega)]
  have big : ∀ (a j : Nat), a < 65536 → 16 ≤ j → a.testBit j = false := fun a j h1 h2 => Nat.testBit_lt_two_pow (Nat.lt_of_lt_of_le h1 (Nat.pow_le_pow_right (n := 2) (by decide) h2))
  rcases (show o = 0 ∨ o = 1 by omega) with rfl | rfl
  · have : decide (16 * 0 + x < 16) = true := decide_eq_true (by omega)
    rw [this, show 16 * 0 + x = x by omega]; simp
  · have : decide (16 * 1 + x < 16) = false := decide_eq_false (by omega)
    rw [this, show 16 * 1 + x - 16 = x by omega, big w (16 * 1 + x) hw (by omega)]; simp
theorem pla_high {on : Nat → Nat} {one : Nat → Int32} (h : ∀ o, o < 2 → one o = nI (on o) ∧ on o < 65536) {w : Int32} {v : Nat} (hv : v < 2 ^ 31) {j : Nat} (hj : 32 ≤ j) : zb (mc_pla one w (nI v)) j = false := by
  unfold mc_pla
  rw [zb_and, plf_high h hv hj, Bool.and_false]
/-- of which outputs a product is, a bit each -/
def outsN (w : Nat) (ze : Nat → Nat) (mo : Nat) : Nat := (if 0 < mo ∧ w &&& ze 0 = 0 then 1 else 0) + (if 1 < mo ∧ w &&& ze 1 = 0 then 2 else 0)
theorem outsN_lt (w : Nat) (ze : Nat → Nat) (mo : Nat) : outsN w ze mo < 4 := by
  unfold outsN
  split <;> split <;> decide
theorem outsN_bit (w : Nat) (ze : Nat → Nat) (mo : Nat) {o : Nat} (ho : o < 2) : (outsN w ze mo).testBit o = (decide (o < mo) && decide (w &&& ze o = 0)) := by
  unfold outsN
  rcases (show o = 0 ∨ o = 1 by omega) with rfl | rfl
  · by_cases h1 : 0 < mo ∧ w &&& ze 0 = 0
    · rw [if_pos h1]
      have e : (decide (0 < mo) && decide (w &&& ze 0 = 0)) = true := by rw [decide_eq_true h1.1, decide_eq_true h1.2]; rfl
      rw [e]; split <;> decide
    · rw [if_neg h1]
      have e : (decide (0 < mo) && decide (w &&& ze 0 = 0)) = false := by
        rw [Bool.eq_false_iff]; intro q; rw [Bool.and_eq_true, decide_eq_true_eq, decide_eq_true_eq] at q; exact h1 q
      rw [e]; split <;> decide
  · by_cases h1 : 1 < mo ∧ w &&& ze 1 = 0
    · rw [if_pos h1]
      have e : (decide (1 < mo) && decide (w &&& ze 1 = 0)) = true := by rw [decide_eq_true h1.1, decide_eq_true h1.2]; rfl
      rw [e]; split <;> decide
    · rw [if_neg h1]
      have e : (decide (1 < mo) && decide (w &&& ze 1 = 0)) = false := by
        rw [Bool.eq_false_iff]; intro q; rw [Bool.and_eq_true, decide_eq_true_eq, decide_eq_true_eq] at q; exact h1 q
      rw [e]; split <;> decide
theorem outf_ok {ze : Nat → Nat} {zer : Nat → Int32} (h : ∀ o, o < 2 → zer o = nI (ze o) ∧ ze o < 65536) {w mo : Nat} (hw : w < 65536) (hm : mo ≤ 2) : fo (mc_outf (nI w) zer) mo 0 = nI (outsN w ze mo) := by
  obtain ⟨e0, b0⟩ := h 0 (by decide)
  obtain ⟨e1, b1⟩ := h 1 (by decide)
  have t : ∀ z, z < 65536 → (nI w &&& nI z = 0 ↔ w &&& z = 0) := fun z hz => by
    have hl : w &&& z ≤ w := Nat.and_le_left
    rw [nI_and, show (0 : Int32) = nI 0 from rfl, nI_eq (by omega) (by decide)]
  have t0 := t _ b0
  have t1 := t _ b1
  unfold outsN
  rcases (show mo = 0 ∨ mo = 1 ∨ mo = 2 by omega) with rfl | rfl | rfl
  · rfl
  · rw [fo_s, fo_0]; unfold mc_outf; rw [e0]
    by_cases h0 : w &&& ze 0 = 0
    · rw [if_pos (t0.mpr h0), if_pos ⟨by decide, h0⟩, if_neg (fun q => absurd q.1 (by decide))]; rfl
    · rw [if_neg (fun q => h0 (t0.mp q)), if_neg (fun q => h0 q.2), if_neg (fun q => absurd q.1 (by decide))]; rfl
  · rw [fo_s, fo_s, fo_0]; unfold mc_outf; rw [e0, e1]
    by_cases h0 : w &&& ze 0 = 0
    · rw [if_pos (t0.mpr h0), if_pos (c := 0 < 2 ∧ w &&& ze 0 = 0) ⟨by decide, h0⟩]
      by_cases h1 : w &&& ze 1 = 0
      · rw [if_pos (t1.mpr h1), if_pos ⟨by decide, h1⟩]; rfl
      · rw [if_neg (fun q => h1 (t1.mp q)), if_neg (fun q => h1 q.2)]; rfl
    · rw [if_neg (fun q => h0 (t0.mp q)), if_neg (c := 0 < 2 ∧ w &&& ze 0 = 0) (fun q => h0 q.2)]
      by_cases h1 : w &&& ze 1 = 0
      · rw [if_pos (t1.mpr h1), if_pos ⟨by decide, h1⟩]; rfl
      · rw [if_neg (fun q => h1 (t1.mp q)), if_neg (fun q => h1 q.2)]; rfl
