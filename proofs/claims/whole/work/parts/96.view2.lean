/-! the reference's table in numbers -/
theorem rfi_ok (n mo : Nat) (one any : Nat → Int32) (num out siz inp cov : Nat → Int32) : ∀ k, (fo (mo_fif n mo one any) k (0, num, out, siz, inp, cov)).1 = cnt (mo_ca n mo one any) k ∧ ∀ p, p < k → mo_ca n mo one any p = true →
    (fo (mo_fif n mo one any) k (0, num, out, siz, inp, cov)).2.1 (cnt (mo_ca n mo one any) p) = nI p ∧ (fo (mo_fif n mo one any) k (0, num, out, siz, inp, cov)).2.2.1 (cnt (mo_ca n mo one any) p) = mo_out n mo one any p ∧ (fo (mo_fif n mo one any) k (0, num, out, siz, inp, cov)).2.2.2.1 (cnt (mo_ca n mo one any) p) = nI (mo_pa n p) ∧ (fo (mo_fif n mo one any) k (0, num, out, siz, inp, cov)).2.2.2.2.1 (cnt (mo_ca n mo one any) p) = mo_on n p ∧ (fo (mo_fif n mo one any) k (0, num, out, siz, inp, cov)).2.2.2.2.2 (cnt (mo_ca n mo one any) p) = mo_cvd one (mo_out n mo one any p) (mo_on n p) := by
  intro k
  induction k with
  | zero => exact ⟨rfl, fun p h => absurd h (Nat.not_lt_zero _)⟩
  | succ k ih =>
    obtain ⟨h1, h2⟩ := ih
    rw [fo_s]
    generalize fo (mo_fif n mo one any) k (0, num, out, siz, inp, cov) = a at h1 h2 ⊢
    cases hn : mo_ca n mo one any k with
    | true =>
      rw [mo_fif_t hn, cnt_s, if_pos hn]
      refine ⟨by show a.1 + 1 = _; rw [h1], fun p hp hq => ?_⟩
      show upd a.2.1 a.1 (nI k) _ = _ ∧ upd a.2.2.1 a.1 (mo_out n mo one any k) _ = _ ∧ upd a.2.2.2.1 a.1 (nI (mo_pa n k)) _ = _ ∧ upd a.2.2.2.2.1 a.1 (mo_on n k) _ = _ ∧ upd a.2.2.2.2.2 a.1 (mo_cvd one (mo_out n mo one any k) (mo_on n k)) _ = _
      rw [h1]
      by_cases hpn : p = k
      · subst hpn
        exact ⟨pk_us, pk_us, pk_us, pk_us, pk_us⟩
      · have hne : cnt (mo_ca n mo one any) p ≠ cnt (mo_ca n mo one any) k := fun h => hpn (cnt_inj hq hn h)
        rw [pk_un hne, pk_un hne, pk_un hne, pk_un hne, pk_un hne]
        exact h2 p (by omega) hq
    | false =>
      rw [mo_fif_f hn, cnt_s, if_neg (by rw [hn]; decide)]
      refine ⟨h1, fun p hp hq => ?_⟩
      have hpn : p ≠ k := fun h => by subst h; rw [hn] at hq; cases hq
      exact h2 p (by omega) hq
theorem ib_nI {a j : Nat} (hj : j < 32) : ib (nI a) j = a.testBit j := by
  show (BitVec.ofNat 32 a).getLsbD j = _
  rw [BitVec.getLsbD_ofNat, decide_eq_true hj, Bool.true_and]
theorem ib_shl16 (x : Int32) {j : Nat} (hj : j < 32) : ib (x <<< (16 &&& 31)) j = (!decide (j < 16) && ib x (j - 16)) := by
  unfold ib
  rw [Int32.toBitVec_shiftLeft, show ((16 &&& 31 : Int32).toBitVec.smod 32) = 16#32 from by decide, BitVec.shiftLeft_eq', show (16#32).toNat = 16 from rfl, BitVec.getLsbD_shiftLeft]
  simp [hj]
theorem ib_or (x y : Int32) (i : Nat) : ib (x ||| y) i = (ib x i || ib y i) := by simp [ib]
theorem out_bits : ∀ v, v < 4 → ((nI v &&& 1 = 1) ↔ v.testBit 0 = true) ∧ ((nI v &&& 2 = 2) ↔ v.testBit 1 = true) := by decide +kernel
theorem tb_big {a j : Nat} (h1 : a < 65536) (h2 : 16 ≤ j) : a.testBit j = false := Nat.testBit_lt_two_pow (Nat.lt_of_lt_of_le h1 (Nat.pow_le_pow_right (n := 2) (by decide) h2))
theorem cvd_bits {one : Nat → Int32} {on : Nat → Nat} (h : ∀ o, o < 2 → one o = nI (on o) ∧ on o < 65536) {v c q : Nat} (hv : v < 4) (hq : q < 32) : ib (mo_cvd one (nI v) (nI c)) q = (c.testBit (q % 16) && (v.testBit (q / 16) && (on (q / 16)).testBit (q % 16))) := by
  obtain ⟨t0, t1⟩ := out_bits v hv
  obtain ⟨e0, b0⟩ := h 0 (by decide)
  obtain ⟨e1, b1⟩ := h 1 (by decide)
  unfold mo_cvd
  rw [ib_or, ib_shl16 _ hq, e0, e1, nI_and, nI_and]
  by_cases h16 : q < 16
  · rw [show q / 16 = 0 by omega, show q % 16 = q by omega, decide_eq_true h16]
    cases hb : v.testBit 0 with
    | true => rw [if_pos (t0.mpr hb), ib_nI hq, Nat.testBit_and]; simp
    | false => rw [if_neg (fun z => by rw [t0.mp z] at hb; cases hb), ib_0]; simp
  · rw [show q / 16 = 1 by omega, show q % 16 = q - 16 by omega, decide_eq_false h16]
    have hz : ∀ P : Prop, ∀ inst : Decidable P, ib (if P then nI (c &&& on 0) else 0) q = false := by
      intro P inst
      split
      · rw [ib_nI hq, Nat.testBit_and, tb_big b0 (by omega), Bool.and_false]
      · exact ib_0 q
    rw [hz]
    cases hb : v.testBit 1 with
    | true => rw [if_pos (t1.mpr hb), ib_nI (by omega), Nat.testBit_and]; simp
    | false => rw [if_neg (fun z => by rw [t1.mp z] at hb; cases hb), ib_0]; simp
theorem left_bits {one : Nat → Int32} {on : Nat → Nat} (h : ∀ o, o < 2 → one o = nI (on o) ∧ on o < 65536) {q : Nat} (hq : q < 32) : ib (mo_left one) q = hv_d on q := by
  obtain ⟨e0, b0⟩ := h 0 (by decide)
  obtain ⟨e1, b1⟩ := h 1 (by decide)
  unfold mo_left hv_d
  rw [ib_or, ib_shl16 _ hq, e0, e1, ib_nI hq]
  by_cases h16 : q < 16
  · rw [show q / 16 = 0 by omega, show q % 16 = q by omega, decide_eq_true h16]; simp
  · rw [show q / 16 = 1 by omega, show q % 16 = q - 16 by omega, decide_eq_false h16, tb_big b0 (by omega), ib_nI (by omega)]; simp
/-- the reference's table, behind find -/
def RVw (n mo : Nat) (on an : Nat → Nat) (u : RT) : Prop := u.2.1 = hv_C n mo on an ∧ ∀ i, i < hv_C n mo on an → u.2.2.1 i = nI (hv_P n mo on an i) ∧ u.2.2.2.1 i = nI (hv_O n mo on an i) ∧ u.2.2.2.2.1 i = nI (szN (hv_P n mo on an i)) ∧ u.2.2.2.2.2.1 i = nI (W4 (hv_P n mo on an i) % 2 ^ 2 ^ n) ∧ ∀ q, q < 32 → ib (u.2.2.2.2.2.2.1 i) q = hv_b n mo on an i q
def FVw (n mo : Nat) (on an : Nat → Nat) (f : FR) : Prop := f.1 = hv_C n mo on an ∧ ∀ i, i < hv_C n mo on an → f.2.1 i = nI (hv_P n mo on an i) ∧ f.2.2.1 i = nI (hv_O n mo on an i) ∧ f.2.2.2.1 i = nI (szN (hv_P n mo on an i)) ∧ f.2.2.2.2.1 i = nI (W4 (hv_P n mo on an i) % 2 ^ 2 ^ n) ∧ ∀ q, q < 32 → ib (f.2.2.2.2.2 i) q = hv_b n mo on an i q
theorem hv_b_mod {n mo : Nat} {on an : Nat → Nat} (ho : ∀ o, o < 2 → on o < 2 ^ 2 ^ n) {i q : Nat} (hq : q < 32) : hv_b n mo on an i q = ((W4 (hv_P n mo on an i) % 2 ^ 2 ^ n).testBit (q % 16) && ((hv_O n mo on an i).testBit (q / 16) && (on (q / 16)).testBit (q % 16))) := by
  unfold hv_b
  rw [Nat.testBit_mod_two_pow]
  by_cases hx : q % 16 < 2 ^ n
  · rw [decide_eq_true hx, Bool.true_and]
  · have : (on (q / 16)).testBit (q % 16) = false := Nat.testBit_lt_two_pow (Nat.lt_of_lt_of_le (ho (q / 16) (by omega)) (Nat.pow_le_pow_right (by decide) (by omega)))
    rw [this]; simp
theorem find_view {n mo : Nat} {on an : Nat → Nat} {one any : Nat → Int32} (h : HvOK n mo on an) (h1 : ∀ o, o < 2 → one o = nI (on o)) (h2 : ∀ o, o < 2 → any o = nI (an o)) (r : RT) : FVw n mo on an (mo_fi n mo one any r (tpow n)) := by
  obtain ⟨⟨hn1, hn4⟩, ⟨hm1, hm2⟩, ho⟩ := h
  have h16 : 2 ^ 2 ^ n ≤ 65536 := pp_16 (by omega)
  have ho1 : ∀ o, o < 2 → one o = nI (on o) ∧ on o < 65536 := fun o q => ⟨h1 o q, Nat.lt_of_lt_of_le (ho o q).1 h16⟩
  have hoa : ∀ o, o < 2 → one o = nI (on o) ∧ any o = nI (an o) := fun o q => ⟨h1 o q, h2 o q⟩
  have hic : ∀ p, p < 3 ^ n → mo_ca n mo one any p = candN (zeN n on an) mo p := fun p hp => ca_ok (by omega) hp hm2 hoa
  have hcn : ∀ p, p ≤ 3 ^ n → cnt (mo_ca n mo one any) p = cnt (candN (zeN n on an) mo) p := fun p hp => cnt_eq p (fun r hr => hic r (by omega))
  obtain ⟨f1, f2⟩ := rfi_ok n mo one any r.2.2.1 r.2.2.2.1 r.2.2.2.2.1 r.2.2.2.2.2.1 r.2.2.2.2.2.2.1 (tpow n)
  refine ⟨f1.trans (hcn (3 ^ n) (Nat.le_refl _)), fun i hi => ?_⟩
  obtain ⟨g1, g2, g3⟩ := hv_P_ok hi
  obtain ⟨k1, k2, k3, k4, k5⟩ := f2 (hv_P n mo on an i) g1 ((hic _ g1).trans g2)
  rw [hcn _ (Nat.le_of_lt g1), g3] at k1 k2 k3 k4 k5
  have hout := out_ok (n := n) (by omega) g1 hm2 hoa
  refine ⟨k1, k2.trans hout, k3.trans (by rw [pa_ok n (by omega) _ g1]; rfl), k4.trans (on_ok n (by omega) _ g1), fun q hq => ?_⟩
  refine (congrArg (fun z => ib z q) k5).trans ?_
  show ib (mo_cvd one (mo_out n mo one any (hv_P n mo on an i)) (mo_on n (hv_P n mo on an i))) q = _
  rw [hout, on_ok n (by omega) _ g1, cvd_bits ho1 (outsN_lt _ _ _) hq, hv_b_mod (fun o z => (ho o z).1) hq]
  rfl
/-- every place that is due has a candidate -/
theorem hv_cov {n mo : Nat} {on an : Nat → Nat} (h : HvOK n mo on an) {q : Nat} (hq : q < 32) (hd : hv_d on q = true) : ∃ i, i < hv_C n mo on an ∧ hv_b n mo on an i q = true := by
  obtain ⟨⟨hn1, hn4⟩, ⟨hm1, hm2⟩, ho⟩ := h
  obtain ⟨q1, q2, -⟩ := q_split hq
  obtain ⟨o1, o2, o3, o4⟩ := ho (q / 16) q1
  unfold hv_d at hd
  have hmo : q / 16 < mo := by
    rcases Nat.lt_or_ge (q / 16) mo with z | z
    · exact z
    · rw [o4 z] at hd; simp at hd
  have hx : q % 16 < 2 ^ n := by
    rcases Nat.lt_or_ge (q % 16) (2 ^ n) with z | z
    · exact z
    · rw [Nat.testBit_lt_two_pow (Nat.lt_of_lt_of_le o1 (Nat.pow_le_pow_right (by decide) z))] at hd; cases hd
  have hz : (zeN n on an (q / 16)).testBit (q % 16) = false := by
    unfold zeN
    have h65 : (65535 : Nat).testBit (q % 16) = true := by
      rw [show (65535 : Nat) = 2 ^ 16 - 1 from rfl, Nat.testBit_two_pow_sub_one]
      exact decide_eq_true q2
    rw [Nat.testBit_and, Nat.testBit_xor, Nat.testBit_or, hd, h65]
    simp
  obtain ⟨p, p1, p2, p3, p4⟩ := cand_ex (ze := zeN n on an) (mo := mo) (n := n) (by omega) hmo q1 hx (zeN_lt on an _) hz
  have hi : cnt (candN (zeN n on an) mo) p < hv_C n mo on an := cnt_lt p1 p2
  refine ⟨_, hi, ?_⟩
  have e : hv_P n mo on an (cnt (candN (zeN n on an) mo) p) = p := cnt_inj (hv_P_ok hi).2.1 p2 (hv_P_ok hi).2.2
  unfold hv_b hv_O
  rw [e, p3, p4, hd]
  rfl
