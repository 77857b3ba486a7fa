/-! class and reference side by side -/
theorem gath_view {n mo : Nat} {on an : Nat → Nat} {one zer : Nat → Int32} {ga : Int32} {tb tg : TB} (h : HvOK n mo on an) (h1 : ∀ o, o < 2 → one o = nI (on o)) (h2 : ∀ o, o < 2 → zer o = nI (zeN n on an o)) (hg : ga = 0 ∨ CVw n mo on an tb) (e : tg = m_gath ga n mo one zer prI prS tb) : CVw n mo on an tg := by
  rw [e]
  unfold m_gath
  by_cases q : ga = 0
  · rw [if_pos q]; exact fill_view h h1 h2 tb
  · rw [if_neg q]; exact hg.resolve_left q
theorem solv_view {n mo : Nat} {on an : Nat → Nat} {se : Int32} {tg : TB} {sb sg : SB} (h : HvOK n mo on an) (hc : CVw n mo on an tg) (hs : se = 0 ∨ SVw n mo on an sb) (e : sg = m_solv se tg sb) : SVw n mo on an sg := by
  rw [e]
  unfold m_solv
  by_cases q : se = 0
  · rw [if_pos q]; exact least_view h hc sb
  · rw [if_neg q]; exact hs.resolve_left q
/-- the class's cells and the reference's speak of one house -/
def Rel (n mo : Nat) (ga se : Int32) (one zer : Nat → Int32) (tb : TB) (sb : SB) (on1 any1 : Nat → Int32) (r : RT) : Prop :=
  ∃ on an : Nat → Nat, HvOK n mo on an ∧ (∀ o, o < 2 → one o = nI (on o)) ∧ (∀ o, o < 2 → zer o = nI (zeN n on an o)) ∧ (∀ o, o < 2 → on1 o = nI (on o)) ∧ (∀ o, o < 2 → any1 o = nI (an o)) ∧ (ga = 0 ∨ CVw n mo on an tb) ∧ (se = 0 ∨ SVw n mo on an sb) ∧ (r.1 = 0 ∨ (RVw n mo on an r ∧ SRw n mo on an r))
theorem in_lt {n : Nat} (hn : n < 2 ^ 31) (x : Int32) : InN n x ↔ ¬ x < 0 ∧ x < nI n := by
  constructor
  · rintro ⟨k, hk, rfl⟩
    exact ⟨nI_pos (by omega), (nI_ltI (by omega) hn).mpr hk⟩
  · rintro ⟨a, b⟩
    obtain ⟨e, hl⟩ := nI_nn a
    rw [e] at b
    exact ⟨_, (nI_ltI hl hn).mp b, e⟩
theorem oko_iff {mo : Nat} (hm : mo ≤ 2) (o : Int32) : (!decide (o < 0) && !decide (nI mo ≤ o)) = true ↔ InN mo o := by
  rw [in_lt (by omega), Bool.and_eq_true, Bool.not_eq_true', Bool.not_eq_true', decide_eq_false_iff_not, decide_eq_false_iff_not, Int32.not_le]
theorem in5_iff (w : Int32) : InN 5 w ↔ ¬ (w.toInt < 0 ∨ 4 < w.toInt) := by
  rw [in_lt (by decide), Int32.lt_iff_toInt_lt, Int32.lt_iff_toInt_lt, show (nI 5).toInt = 5 from rfl, show (0 : Int32).toInt = 0 from rfl]
  omega
theorem bg_iff (i1 o1 : Int32) : mo_bg i1 o1 = true ↔ ¬ (i1 < 1 ∨ ¬ i1 ≤ 4 ∨ o1 < 1 ∨ ¬ o1 ≤ 2) := by
  unfold mo_bg
  rw [Bool.and_eq_true, Bool.and_eq_true, Bool.and_eq_true, Bool.not_eq_true', Bool.not_eq_true', Bool.not_eq_true', Bool.not_eq_true', decide_eq_false_iff_not, decide_eq_false_iff_not, decide_eq_false_iff_not, decide_eq_false_iff_not, Int32.not_lt (a := 4), Int32.not_lt (a := 2)]
  constructor
  · rintro ⟨⟨a, b⟩, c, d⟩ (h | h | h | h)
    · exact a h
    · exact h b
    · exact c h
    · exact h d
  · intro h
    refine ⟨⟨fun z => h (Or.inl z), ?_⟩, fun z => h (Or.inr (Or.inr (Or.inl z))), ?_⟩
    · exact Classical.byContradiction fun z => h (Or.inr (Or.inl z))
    · exact Classical.byContradiction fun z => h (Or.inr (Or.inr (Or.inr z)))
theorem small_of {x : Int32} {k : Nat} (hk : k < 1000) (h1 : ¬ x < 1) (h2 : x ≤ nI k) : ∃ n, 1 ≤ n ∧ n ≤ k ∧ x = nI n := by
  have h0 : ¬ x < 0 := fun z => h1 (Int32.lt_iff_toInt_lt.mpr (by have := Int32.lt_iff_toInt_lt.mp z; have e0 : (0 : Int32).toInt = 0 := rfl; have e1 : (1 : Int32).toInt = 1 := rfl; omega))
  obtain ⟨e, hl⟩ := nI_nn h0
  refine ⟨x.toBitVec.toNat, ?_, ?_, e⟩
  · rcases Nat.eq_zero_or_pos x.toBitVec.toNat with z | z
    · rw [z] at e
      exact absurd (by rw [e]; decide) h1
    · exact z
  · rw [e] at h2
    exact (nI_leI hl (by omega)).mp h2
theorem zeN_0 {n : Nat} (hn : n ≤ 4) (o : Nat) : zeN n (fun _ => 0) (fun _ => 0) o = 2 ^ 2 ^ n - 1 := by
  show (2 ^ 2 ^ n - 1) &&& (65535 ^^^ (0 ||| 0)) = 2 ^ 2 ^ n - 1
  clear o
  rcases (show n = 0 ∨ n = 1 ∨ n = 2 ∨ n = 3 ∨ n = 4 by omega) with rfl | rfl | rfl | rfl | rfl <;> decide +kernel
theorem rel_begin {n mo : Nat} {one zer on1 any1 : Nat → Int32} {tb : TB} {sb : SB} {r : RT} (h1 : 1 ≤ n) (h2 : n ≤ 4) (h3 : 1 ≤ mo) (h4 : mo ≤ 2) (hr : r.1 = 0) : Rel n mo 0 0 (fo (mc_setf 0) 2 one) (fo (mc_setf (mc_all (nI n))) 2 zer) tb sb (fo (mc_setf 0) 2 on1) (fo (mc_setf 0) 2 any1) r := by
  have hp : 0 < 2 ^ 2 ^ n := Nat.pow_pos (by decide)
  refine ⟨fun _ => 0, fun _ => 0, ⟨⟨h1, h2⟩, ⟨h3, h4⟩, fun o _ => ⟨hp, hp, Nat.and_self 0, fun _ => rfl⟩⟩, fun o ho => setf_at 2 o ho, fun o ho => ?_, fun o ho => setf_at 2 o ho, fun o ho => setf_at 2 o ho, Or.inl rfl, Or.inl rfl, Or.inl hr⟩
  rw [setf_at 2 o ho, zeN_0 h2, all_eq h2]
theorem ib_all {n q : Nat} (hn : n ≤ 4) (hq : q < 32) : ib (mc_all (nI n)) q = decide (q < 2 ^ n) := by
  rw [all_eq hn, ib_nI hq, Nat.testBit_two_pow_sub_one]
theorem set_lt {n : Nat} {x : Int32} (hn : n ≤ 4) : (!decide (x < 0) && !decide (mc_all (nI n) < x)) = true ↔ ∃ a, a < 2 ^ 2 ^ n ∧ x = nI a := by
  have h16 : 2 ^ 2 ^ n ≤ 65536 := pp_16 (by omega)
  have hp : 0 < 2 ^ 2 ^ n := Nat.pow_pos (by decide)
  rw [Bool.and_eq_true, Bool.not_eq_true', Bool.not_eq_true', decide_eq_false_iff_not, decide_eq_false_iff_not, all_eq hn]
  constructor
  · rintro ⟨a, b⟩
    obtain ⟨e, hl⟩ := nI_nn a
    rw [e, nI_ltI (by omega) hl] at b
    exact ⟨_, by omega, e⟩
  · rintro ⟨a, ha, rfl⟩
    refine ⟨nI_pos (by omega), ?_⟩
    rw [nI_ltI (by omega) (by omega)]
    omega
theorem set_bits {n : Nat} {x : Int32} (hn : n ≤ 4) : (∃ a, a < 2 ^ 2 ^ n ∧ x = nI a) ↔ ∀ q, q < 32 → ib x q = true → q < 2 ^ n := by
  constructor
  · rintro ⟨a, ha, rfl⟩ q hq hb
    rw [ib_nI hq] at hb
    rcases Nat.lt_or_ge q (2 ^ n) with z | z
    · exact z
    · rw [Nat.testBit_lt_two_pow (Nat.lt_of_lt_of_le ha (Nat.pow_le_pow_right (by decide) z))] at hb; cases hb
  · intro h
    refine ⟨x.toBitVec.toNat, ?_, ?_⟩
    · apply Nat.lt_pow_two_of_testBit
      intro i hi
      cases hb : x.toBitVec.toNat.testBit i with
      | false => rfl
      | true =>
        have hi32 : i < 32 := by
          rcases Nat.lt_or_ge i 32 with z | z
          · exact z
          · rw [Nat.testBit_lt_two_pow (Nat.lt_of_lt_of_le x.toBitVec.isLt (Nat.pow_le_pow_right (by decide) z))] at hb; cases hb
        have := h i hi32 hb
        omega
    · apply Int32.toBitVec_inj.1
      apply BitVec.eq_of_toNat_eq
      show _ = (BitVec.ofNat 32 x.toBitVec.toNat).toNat
      rw [BitVec.toNat_ofNat, Nat.mod_eq_of_lt x.toBitVec.isLt]
/-- the class's tests of a set and the reference's -/
theorem set_iff {n : Nat} {x y : Int32} (hn : n ≤ 4) : SetIn n x y ↔ ((x ||| y) &&& (mc_all (nI n) ^^^ (-1)) = 0 ∧ x &&& y = 0) := by
  unfold SetIn
  rw [set_lt hn, set_lt hn, set_bits hn, set_bits hn]
  have h16 : 2 ^ n ≤ 16 := Nat.pow_le_pow_right (n := 2) (by decide) hn
  constructor
  · rintro ⟨a, b, c⟩
    refine ⟨?_, c⟩
    apply ib_ext
    intro q hq
    rw [ib_and, ib_or, ib_not _ hq, ib_all hn hq, ib_0]
    cases hx : ib x q with
    | true => rw [decide_eq_true (a q hq hx)]; simp
    | false =>
      cases hy : ib y q with
      | true => rw [decide_eq_true (b q hq hy)]; simp
      | false => rfl
  · rintro ⟨a, c⟩
    have key : ∀ q, q < 32 → (ib x q || ib y q) = true → q < 2 ^ n := by
      intro q hq hb
      have := congrArg (fun z => ib z q) a
      simp only [ib_and, ib_or, ib_not _ hq, ib_all hn hq, ib_0] at this
      rw [hb] at this
      rcases Nat.lt_or_ge q (2 ^ n) with z | z
      · exact z
      · rw [decide_eq_false (Nat.not_lt.mpr z)] at this; cases this
    exact ⟨fun q hq hb => key q hq (by rw [hb]; rfl), fun q hq hb => key q hq (by rw [hb, Bool.or_true]), c⟩
theorem rel_set {n mo : Nat} {ga se : Int32} {one zer on1 any1 : Nat → Int32} {tb : TB} {sb : SB} {r : RT} (h : Rel n mo ga se one zer tb sb on1 any1 r) {j : Nat} (hj : j < mo) {x y : Int32} (hs : SetIn n x y) {r2 : RT} (hr : r2.1 = 0) : Rel n mo 0 0 (upd one j x) (upd zer j (mc_all (nI n) &&& ((x ||| y) ^^^ (-1)))) tb sb (upd on1 j x) (upd any1 j y) r2 := by
  obtain ⟨on, an, ⟨⟨a1, a2⟩, ⟨a3, a4⟩, a5⟩, h1, h2, h3, h4, -⟩ := h
  obtain ⟨s1, s2, s3⟩ := hs
  obtain ⟨a, ha, rfl⟩ := (set_lt a2).mp s1
  obtain ⟨b, hb, rfl⟩ := (set_lt a2).mp s2
  have h16 : 2 ^ 2 ^ n ≤ 65536 := pp_16 (by omega)
  have hp : 0 < 2 ^ 2 ^ n := Nat.pow_pos (by decide)
  have hab : a &&& b = 0 := by
    rw [nI_and, show (0 : Int32) = nI 0 from rfl, nI_eq (Nat.lt_of_le_of_lt Nat.and_le_left (by omega)) (by decide)] at s3
    exact s3
  have hu : ∀ {f : Nat → Int32} {g : Nat → Nat} {c : Nat}, (∀ o, o < 2 → f o = nI (g o)) → ∀ o, o < 2 → upd f j (nI c) o = nI (if o = j then c else g o) := by
    intro f g c hf o ho
    by_cases e : o = j
    · subst e; rw [pk_us, if_pos rfl]
    · rw [pk_un e, if_neg e]; exact hf o ho
  refine ⟨fun o => if o = j then a else on o, fun o => if o = j then b else an o, ⟨⟨a1, a2⟩, ⟨a3, a4⟩, fun o ho => ?_⟩, hu h1, fun o ho => ?_, hu h3, hu h4, Or.inl rfl, Or.inl rfl, Or.inl hr⟩
  · dsimp only
    by_cases e : o = j
    · rw [if_pos e, if_pos e]
      exact ⟨ha, hb, hab, fun z => by omega⟩
    · rw [if_neg e, if_neg e]
      exact a5 o ho
  · by_cases e : o = j
    · subst e
      rw [pk_us, all_eq a2, nI_or, ds_not (by omega)]
      show _ = nI ((2 ^ 2 ^ n - 1) &&& (65535 ^^^ ((if o = o then a else on o) ||| (if o = o then b else an o))))
      rw [if_pos rfl, if_pos rfl]
    · rw [pk_un e, h2 o ho]
      show nI ((2 ^ 2 ^ n - 1) &&& (65535 ^^^ (on o ||| an o))) = nI ((2 ^ 2 ^ n - 1) &&& (65535 ^^^ ((if o = j then a else on o) ||| (if o = j then b else an o))))
      rw [if_neg e, if_neg e]
theorem icmp_L {L i : Nat} (hL : L ≤ 2048) (hi : i ≤ 600) : Int32.ofNat L - 4 < nI (4 * i) ↔ L < 4 * i + 4 := by
  rcases Nat.lt_or_ge L 4 with z | z
  · constructor
    · intro _; omega
    · intro _
      rcases (show L = 0 ∨ L = 1 ∨ L = 2 ∨ L = 3 by omega) with rfl | rfl | rfl | rfl
      · exact Int32.lt_iff_toInt_lt.mpr (by rw [nI_toInt (by omega)]; show (-4 : Int) < _; omega)
      · exact Int32.lt_iff_toInt_lt.mpr (by rw [nI_toInt (by omega)]; show (-3 : Int) < _; omega)
      · exact Int32.lt_iff_toInt_lt.mpr (by rw [nI_toInt (by omega)]; show (-2 : Int) < _; omega)
      · exact Int32.lt_iff_toInt_lt.mpr (by rw [nI_toInt (by omega)]; show (-1 : Int) < _; omega)
  · rw [show Int32.ofNat L - 4 = nI (L - 4) from pk_sub (b := 4) z, nI_ltI (by omega) (by omega)]
    omega
theorem and_15 (x : Int32) : ∃ v, v < 16 ∧ x &&& 15 = nI v := by
  refine ⟨(x &&& 15).toBitVec.toNat, ?_, ?_⟩
  · have e : (x &&& 15).toBitVec = x.toBitVec &&& 15#32 := by simp
    rw [e, BitVec.toNat_and]
    exact Nat.lt_of_le_of_lt Nat.and_le_right (by decide)
  · apply Int32.toBitVec_inj.1
    apply BitVec.eq_of_toNat_eq
    show _ = (BitVec.ofNat 32 (x &&& 15).toBitVec.toNat).toNat
    rw [BitVec.toNat_ofNat, Nat.mod_eq_of_lt (x &&& 15).toBitVec.isLt]
