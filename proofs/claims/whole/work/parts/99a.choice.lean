/-! the answers: the choice, its parts, value -/
theorem ls_at {n mo : Nat} {on an : Nat → Nat} {S : Nat → Bool} {k : Nat} {pic : Nat → Int32} (h : LsV n mo on an S k pic) {j : Nat} (hj : j < k) : ∃ i, i < hv_C n mo on an ∧ S i = true ∧ cnt S i = j ∧ pic j = nI i := by
  rw [h.1] at hj
  obtain ⟨i, i1, i2, i3⟩ := cnt_surj hj
  exact ⟨i, i1, i2, i3, by rw [← i3]; exact h.2 i i1 i2⟩
theorem ls_cn {n mo : Nat} {on an : Nat → Nat} {S : Nat → Bool} {k : Nat} {pic : Nat → Int32} (hn : n ≤ 4) (h : LsV n mo on an S k pic) {j : Nat} (hj : j < k) : pic j = nI (pic j).toNatClampNeg ∧ (pic j).toNatClampNeg < hv_C n mo on an ∧ S (pic j).toNatClampNeg = true ∧ cnt S (pic j).toNatClampNeg = j := by
  obtain ⟨i, i1, i2, i3, i4⟩ := ls_at h hj
  have hc := hv_C54 (n := n) (mo := mo) (on := on) (an := an) hn
  have e : (pic j).toNatClampNeg = i := by rw [i4]; exact nI_clamp (by omega)
  rw [e]
  exact ⟨i4, i1, i2, i3⟩
theorem ls_le {n mo : Nat} {on an : Nat → Nat} {S : Nat → Bool} {k : Nat} {pic : Nat → Int32} (hn : n ≤ 4) (h : LsV n mo on an S k pic) : k ≤ 54 := by
  have hc := hv_C54 (n := n) (mo := mo) (on := on) (an := an) hn
  have := cnt_bound S (hv_C n mo on an)
  have := h.1
  omega
theorem gdr_of {n mo : Nat} {on an : Nat → Nat} {u : RT} (hn : n ≤ 4) (hr : RVw n mo on an u) (hs : SRw n mo on an u) : GdR u := by
  have hc := hv_C54 (n := n) (mo := mo) (on := on) (an := an) hn
  obtain ⟨S, -, h⟩ := hs
  have := ls_le hn h
  refine ⟨by have := hr.1; omega, by omega, fun k hk => ?_⟩
  obtain ⟨a, b, -⟩ := ls_cn hn h hk
  exact ⟨a, by show (u.2.2.2.2.2.2.2.1 k).toNatClampNeg < 81; omega⟩
/-- class and reference have chosen the same -/
theorem choice_same {n mo : Nat} {on an : Nat → Nat} {b : SB} {u : RT} (hs : SVw n mo on an b) (hr : SRw n mo on an u) : b.2.1 = u.2.2.2.2.2.2.2.2.1 ∧ ∀ k, k < b.2.1 → b.1 k = u.2.2.2.2.2.2.2.1 k := by
  obtain ⟨S, s1, s2, -⟩ := hs
  obtain ⟨T, t1, t2⟩ := hr
  have e := isl_one s1 t1
  subst e
  refine ⟨s2.1.trans t2.1.symm, fun k hk => ?_⟩
  obtain ⟨i, i1, i2, i3, i4⟩ := ls_at s2 hk
  rw [i4, ← i3]
  exact (t2.2 i i1 i2).symm
theorem parts_same {n mo : Nat} {on an : Nat → Nat} {b : SB} {u : RT} (hn : n ≤ 4) (hs : SVw n mo on an b) (hv : RVw n mo on an u) (hr : SRw n mo on an u) : b.2.2.1 = fo (mo_sumf u.2.2.2.2.1 (cnOf u)) u.2.2.2.2.2.2.2.2.1 0 := by
  have hc := hv_C54 (n := n) (mo := mo) (on := on) (an := an) hn
  obtain ⟨S, s1, s2, s3, -⟩ := hs
  obtain ⟨T, t1, t2⟩ := hr
  have e := isl_one s1 t1
  subst e
  rw [s3, t2.1]
  have key : ∀ m, m ≤ hv_C n mo on an → fo (mo_sumf u.2.2.2.2.1 (cnOf u)) (cnt S m) 0 = nI (sw (hv_s n mo on an) S m) := by
    intro m
    induction m with
    | zero => intro _; rfl
    | succ m ih =>
      intro hm
      have h1 := ih (by omega)
      have hsw : sw (hv_s n mo on an) S (m + 1) = sw (hv_s n mo on an) S m + (if S m = true then hv_s n mo on an m else 0) := rfl
      rw [cnt_s, hsw]
      cases hb : S m with
      | true =>
        rw [if_pos rfl, if_pos rfl, fo_s, h1]
        have e1 : cnOf u (cnt S m) = m := by
          unfold cnOf
          rw [t2.2 m (by omega) hb]
          exact nI_clamp (by omega)
        show nI _ + u.2.2.2.2.1 (cnOf u (cnt S m)) = _
        rw [e1, (hv.2 m (by omega)).2.2.1, nI_add]
        rfl
      | false =>
        rw [if_neg (by decide), if_neg (by decide)]
        exact h1
  exact (key _ (Nat.le_refl _)).symm
theorem bit_val {v o : Nat} (hv : v < 2 ^ 31) (ho : o < 31) : (nI v >>> (nI o &&& 31)) &&& 1 = nI (if v.testBit o = true then 1 else 0) := by
  have hs : ∀ o, o < 31 → ((nI o &&& 31).toBitVec.smod 32).toNat = o := by decide +kernel
  rw [pk_shrN hv (nI o &&& 31) o (hs o ho), pk_andN (m := 1) (Nat.lt_of_le_of_lt (Nat.div_le_self _ _) (by omega)) 1 rfl]
  rw [Nat.testBit_eq_decide_div_mod_eq]
  have : v / 2 ^ o % 2 ^ 1 = v / 2 ^ o % 2 := rfl
  rw [this]
  congr 1
  rcases Nat.mod_two_eq_zero_or_one (v / 2 ^ o) with h | h <;> rw [h] <;> decide
theorem bit_0 {v o : Nat} (hv : v < 2 ^ 31) (ho : o < 31) : (!decide ((nI v >>> (nI o &&& 31)) &&& 1 = 0)) = v.testBit o := by
  rw [bit_val hv ho]
  cases v.testBit o <;> decide
theorem bit_1 {v o : Nat} (hv : v < 2 ^ 31) (ho : o < 31) : decide ((nI v >>> (nI o &&& 31)) &&& 1 = 1) = v.testBit o := by
  rw [bit_val hv ho]
  cases v.testBit o <;> decide
theorem oneP_val {bs : Int64} {out inp : Nat → Int32} {o x k v w : Nat} (hv : v < 2 ^ 31) (hw : w < 2 ^ 31) (ho : o < 31) (hx : x < 31) (c2 : out k = nI v) (c4 : inp k = nI w) : mc_oneP bs out inp (nI o) (nI x) k = (zb bs k && (v.testBit o && w.testBit x)) := by
  unfold mc_oneP
  rw [c2, c4, bit_0 hv ho, bit_0 hw hx]
theorem vaP_val {out inp : Nat → Int32} {pkn : Nat → Nat} {o x k v w : Nat} (hv : v < 2 ^ 31) (hw : w < 2 ^ 31) (ho : o < 31) (hx : x < 31) (c2 : out (pkn k) = nI v) (c4 : inp (pkn k) = nI w) : mo_vaP out inp pkn (nI o) (nI x) k = (v.testBit o && w.testBit x) := by
  unfold mo_vaP
  rw [c2, c4, bit_1 hv ho, bit_1 hw hx]
theorem value_same {n mo : Nat} {on an : Nat → Nat} {t : TB} {b : SB} {u : RT} {o x : Nat} (hn : n ≤ 4) (hv : CVw n mo on an t) (hs : SVw n mo on an b) (hr : RVw n mo on an u) (hr2 : SRw n mo on an u) (ho : o < 2) (hx : x < 2 ^ n) : exn t.1 (mc_oneP b.2.2.2.2.2.2 t.2.2.1 t.2.2.2.2.1 (nI o) (nI x)) = exn u.2.2.2.2.2.2.2.2.1 (mo_vaP u.2.2.2.1 u.2.2.2.2.2.1 (cnOf u) (nI o) (nI x)) := by
  have hc := hv_C54 (n := n) (mo := mo) (on := on) (an := an) hn
  have h81 := tp_81 hn
  have h16 : 2 ^ n ≤ 16 := Nat.pow_le_pow_right (n := 2) (by decide) hn
  obtain ⟨S, s1, -, -, s4⟩ := hs
  obtain ⟨T, t1, t2⟩ := hr2
  have e := isl_one s1 t1
  subst e
  have hone : ∀ i, i < hv_C n mo on an → mc_oneP b.2.2.2.2.2.2 t.2.2.1 t.2.2.2.2.1 (nI o) (nI x) i = (S i && ((hv_O n mo on an i).testBit o && (W4 (hv_P n mo on an i)).testBit x)) := by
    intro i hi
    obtain ⟨-, c2, -, c4, -⟩ := hv.2.1 i hi
    have hW : W4 (hv_P n mo on an i) < 65536 := w4_lt _ (Nat.lt_of_lt_of_le (hv_P_ok hi).1 h81)
    have hO : hv_O n mo on an i < 2 ^ 31 := Nat.lt_of_lt_of_le (outsN_lt _ _ _) (by decide)
    rw [oneP_val (v := hv_O n mo on an i) (w := W4 (hv_P n mo on an i)) hO (Nat.lt_trans hW (by decide)) (by omega) (by omega) c2 c4, s4 i]
  have hva : ∀ i k, i < hv_C n mo on an → cnOf u k = i → mo_vaP u.2.2.2.1 u.2.2.2.2.2.1 (cnOf u) (nI o) (nI x) k = ((hv_O n mo on an i).testBit o && (W4 (hv_P n mo on an i)).testBit x) := by
    intro i k hi hk
    obtain ⟨-, d2, -, d4, -⟩ := hr.2 i hi
    have hW : W4 (hv_P n mo on an i) < 65536 := w4_lt _ (Nat.lt_of_lt_of_le (hv_P_ok hi).1 h81)
    have hO : hv_O n mo on an i < 2 ^ 31 := Nat.lt_of_lt_of_le (outsN_lt _ _ _) (by decide)
    rw [vaP_val (v := hv_O n mo on an i) (w := W4 (hv_P n mo on an i) % 2 ^ 2 ^ n) hO (Nat.lt_of_le_of_lt (Nat.mod_le _ _) (Nat.lt_trans hW (by decide))) (by omega) (by omega) (by rw [hk]; exact d2) (by rw [hk]; exact d4)]
    rw [Nat.testBit_mod_two_pow, decide_eq_true hx, Bool.true_and]
  rw [hv.1]
  rw [Bool.eq_iff_iff, exn_iff, exn_iff]
  constructor
  · rintro ⟨i, hi, h1⟩
    rw [hone i hi, Bool.and_eq_true] at h1
    refine ⟨cnt S i, by rw [t2.1]; exact cnt_lt hi h1.1, ?_⟩
    rw [hva i (cnt S i) hi (by unfold cnOf; rw [t2.2 i hi h1.1]; exact nI_clamp (by omega))]
    exact h1.2
  · rintro ⟨k, hk, h1⟩
    obtain ⟨i, i1, i2, i3, i4⟩ := ls_at t2 hk
    rw [hva i k i1 (by unfold cnOf; rw [i4]; exact nI_clamp (by omega))] at h1
    exact ⟨i, i1, by rw [hone i i1, i2, h1]; rfl⟩
/-- what candidate(k, j) tells is the same -/
theorem all_eq {n : Nat} (hn : n ≤ 4) : mc_all (nI n) = nI (2 ^ 2 ^ n - 1) := by
  rcases (show n = 0 ∨ n = 1 ∨ n = 2 ∨ n = 3 ∨ n = 4 by omega) with rfl | rfl | rfl | rfl | rfl <;> decide +kernel
theorem cand4_same {n : Nat} (hn : n ≤ 4) (w : Nat) : nI w &&& mc_all (nI n) = nI (w % 2 ^ 2 ^ n) := by
  rw [all_eq hn, nI_and, Nat.and_two_pow_sub_one_eq_mod]
theorem cand_same {n mo : Nat} {on an : Nat → Nat} {t : TB} {u : RT} {k : Nat} (hn : n ≤ 4) (hv : CVw n mo on an t) (hr : RVw n mo on an u) (hk : k < hv_C n mo on an) :
    t.2.1 k = candV u k 0 ∧ t.2.2.1 k = candV u k 1 ∧ t.2.2.2.1 k = candV u k 2 ∧ (if (!decide (t.2.2.2.2.2.1 k &&& t.2.2.2.2.2.2.2.1 = 0)) = true then (1 : Int32) else 0) = candV u k 3 ∧ t.2.2.2.2.1 k &&& mc_all (nI n) = candV u k 4 := by
  obtain ⟨c1, c2, c3, c4, -⟩ := hv.2.1 k hk
  obtain ⟨d1, d2, d3, d4, -⟩ := hr.2 k hk
  refine ⟨c1.trans d1.symm, c2.trans d2.symm, c3.trans d3.symm, ?_, ?_⟩
  · rw [needed_same hv hr hk, candV_3]
  · rw [c4, cand4_same hn]
    exact d4.symm
