/-! at most 54 candidates, of the code's table -/
theorem cnt_or3 {P A B C : Nat → Bool} : ∀ {n : Nat}, (∀ i, i < n → P i = true → A i = true ∨ B i = true ∨ C i = true) → cnt P n ≤ cnt A n + cnt B n + cnt C n := by
  intro n
  induction n with
  | zero => intro _; exact Nat.zero_le _
  | succ n ih =>
    intro h
    have h1 := ih (fun i hi => h i (by omega))
    have h2 := h n (by omega)
    rw [cnt_s, cnt_s, cnt_s, cnt_s]
    by_cases hp : P n = true
    · rw [if_pos hp]
      rcases h2 hp with q | q | q
      · rw [if_pos q]; omega
      · rw [if_pos q]; omega
      · rw [if_pos q]; omega
    · rw [if_neg hp]; omega
theorem w4_lt : ∀ p, p < 81 → W4 p < 65536 := by decide +kernel
theorem w4_wider : ∀ p, p < 81 → ∀ k, k < 4 → W4 p &&& W4 (wop p k) = W4 p := by decide +kernel
theorem w4_sub {p k z : Nat} (hp : p < 81) (hk : k < 4) (h : W4 (wop p k) &&& z = 0) : W4 p &&& z = 0 := by
  rw [← w4_wider p hp k hk, Nat.and_assoc, h]; simp
/-- the candidates by numbers: of some output, and of fewer without any part -/
def candN (ze : Nat → Nat) (mo p : Nat) : Bool := !decide (outsN (W4 p) ze mo = 0) && !exn 4 (fun k => !decide (wop p k = p) && decide (outsN (W4 (wop p k)) ze mo = outsN (W4 p) ze mo))
theorem cand_pr4 {ze : Nat → Nat} {mo p : Nat} (hp : p < 81) (h : candN ze mo p = true) : pr4 (ze 0) p = true ∨ pr4 (ze 1) p = true ∨ pr4 (ze 0 ||| ze 1) p = true := by
  unfold candN at h
  rw [Bool.and_eq_true, Bool.not_eq_true', decide_eq_false_iff_not, Bool.not_eq_true'] at h
  obtain ⟨h0, h1⟩ := h
  have h2 : ∀ k, k < 4 → wop p k ≠ p → outsN (W4 (wop p k)) ze mo ≠ outsN (W4 p) ze mo := fun k hk hw he => by
    have : exn 4 (fun k => !decide (wop p k = p) && decide (outsN (W4 (wop p k)) ze mo = outsN (W4 p) ze mo)) = true := exn_true hk (by rw [decide_eq_false hw, decide_eq_true he]; rfl)
    rw [h1] at this; cases this
  have sub : ∀ k, k < 4 → ∀ o, W4 (wop p k) &&& ze o = 0 → W4 p &&& ze o = 0 := fun k hk o hq => w4_sub hp hk hq
  have fin : ∀ z, W4 p &&& z = 0 → (∀ k, k < 4 → wop p k ≠ p → W4 (wop p k) &&& z ≠ 0) → pr4 z p = true := fun z a b => by
    unfold pr4
    rw [decide_eq_true a, exn_false (fun k hk => by
      rw [Bool.eq_false_iff]
      intro q
      rw [Bool.and_eq_true, Bool.not_eq_true', decide_eq_false_iff_not, decide_eq_true_eq] at q
      exact b k hk q.1 q.2)]
    rfl
  unfold outsN at h0 h2
  by_cases a0 : 0 < mo ∧ W4 p &&& ze 0 = 0
  · by_cases a1 : 1 < mo ∧ W4 p &&& ze 1 = 0
    · refine Or.inr (Or.inr (fin _ ((land_or0 _ _ _).mpr ⟨a0.2, a1.2⟩) (fun k hk hw q => h2 k hk hw ?_)))
      rw [land_or0] at q
      rw [if_pos a0, if_pos a1, if_pos ⟨a0.1, q.1⟩, if_pos ⟨a1.1, q.2⟩]
    · refine Or.inl (fin _ a0.2 (fun k hk hw q => h2 k hk hw ?_))
      rw [if_pos a0, if_neg a1, if_pos ⟨a0.1, q⟩, if_neg (fun z => a1 ⟨z.1, sub k hk 1 z.2⟩)]
  · by_cases a1 : 1 < mo ∧ W4 p &&& ze 1 = 0
    · refine Or.inr (Or.inl (fin _ a1.2 (fun k hk hw q => h2 k hk hw ?_)))
      rw [if_neg a0, if_pos a1, if_neg (fun z => a0 ⟨z.1, sub k hk 0 z.2⟩), if_pos ⟨a1.1, q⟩]
    · rw [if_neg a0, if_neg a1] at h0
      exact absurd rfl h0
theorem cand_54 {ze : Nat → Nat} (h0 : ze 0 < 65536) (h1 : ze 1 < 65536) (mo : Nat) {n : Nat} (hn : n ≤ 81) : cnt (candN ze mo) n ≤ 54 := by
  have a := cnt_or3 (n := n) (P := candN ze mo) (A := pr4 (ze 0)) (B := pr4 (ze 1)) (C := pr4 (ze 0 ||| ze 1)) (fun i hi h => cand_pr4 (by omega) h)
  have b0 := cnt_le (pr4 (ze 0)) hn
  have b1 := cnt_le (pr4 (ze 1)) hn
  have b2 := cnt_le (pr4 (ze 0 ||| ze 1)) hn
  have c0 := pr4_18 h0
  have c1 := pr4_18 h1
  have c2 := pr4_18 (Nat.or_lt_two_pow (n := 16) h0 h1)
  omega
/-- the code's test of a candidate is that of the numbers -/
theorem isc_cand {oop : Nat → Int32} {ze : Nat → Nat} {mo n : Nat} (ho : ∀ p, p < n → oop p = nI (outsN (W4 p) ze mo)) {p : Nat} (hp : p < n) : mc_isc oop p = candN ze mo p := by
  have lt : ∀ q, outsN (W4 q) ze mo < 2 ^ 31 := fun q => Nat.lt_trans (outsN_lt _ _ _) (by decide)
  unfold mc_isc candN
  have e1 : decide (oop p = 0) = decide (outsN (W4 p) ze mo = 0) := by
    rw [ho p hp, show (0 : Int32) = nI 0 from rfl]
    exact decide_eq_decide.mpr (nI_eq (lt p) (by decide))
  have e2 : mc_wideP oop p = fun k => !decide (wop p k = p) && decide (outsN (W4 (wop p k)) ze mo = outsN (W4 p) ze mo) := by
    funext k
    unfold mc_wideP
    have hw : wop p k < n := Nat.lt_of_le_of_lt (wop_le2 p k) hp
    rw [ho _ hw, ho p hp]
    congr 1
    exact decide_eq_decide.mpr (nI_eq (lt _) (lt _))
  rw [e1, e2]
