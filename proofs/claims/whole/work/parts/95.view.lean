/-! a house in numbers: n inputs, mo outputs, for each output the inputs for which it is 1 (on) and anything (an) -/
noncomputable def cpr (P : Nat → Bool) (n i : Nat) : Nat := @dite _ (∃ p, p < n ∧ P p = true ∧ cnt P p = i) (Classical.propDecidable _) (fun h => Classical.choose h) (fun _ => 0)
theorem cpr_ok {P : Nat → Bool} {n i : Nat} (h : i < cnt P n) : cpr P n i < n ∧ P (cpr P n i) = true ∧ cnt P (cpr P n i) = i := by
  have h1 : ∃ p, p < n ∧ P p = true ∧ cnt P p = i := cnt_surj h
  unfold cpr
  rw [dif_pos h1]
  exact Classical.choose_spec h1
def szN (p : Nat) : Nat := (fo (mc_dsf p) 4 (65535, 0)).2
def HvOK (n mo : Nat) (on an : Nat → Nat) : Prop := (1 ≤ n ∧ n ≤ 4) ∧ (1 ≤ mo ∧ mo ≤ 2) ∧ ∀ o, o < 2 → on o < 2 ^ 2 ^ n ∧ an o < 2 ^ 2 ^ n ∧ on o &&& an o = 0 ∧ (mo ≤ o → on o = 0)
def hv_C (n mo : Nat) (on an : Nat → Nat) : Nat := cnt (candN (zeN n on an) mo) (3 ^ n)
noncomputable def hv_P (n mo : Nat) (on an : Nat → Nat) (i : Nat) : Nat := cpr (candN (zeN n on an) mo) (3 ^ n) i
noncomputable def hv_O (n mo : Nat) (on an : Nat → Nat) (i : Nat) : Nat := outsN (W4 (hv_P n mo on an i)) (zeN n on an) mo
noncomputable def hv_b (n mo : Nat) (on an : Nat → Nat) (i q : Nat) : Bool := (W4 (hv_P n mo on an i)).testBit (q % 16) && ((hv_O n mo on an i).testBit (q / 16) && (on (q / 16)).testBit (q % 16))
def hv_d (on : Nat → Nat) (q : Nat) : Bool := (on (q / 16)).testBit (q % 16)
theorem tp_81 {n : Nat} (h : n ≤ 4) : 3 ^ n ≤ 81 := tpow_81 h
theorem hv_P_ok {n mo : Nat} {on an : Nat → Nat} {i : Nat} (h : i < hv_C n mo on an) : hv_P n mo on an i < 3 ^ n ∧ candN (zeN n on an) mo (hv_P n mo on an i) = true ∧ cnt (candN (zeN n on an) mo) (hv_P n mo on an i) = i := cpr_ok h
theorem ze_lt {n : Nat} (hn : n ≤ 4) (on an : Nat → Nat) (o : Nat) : zeN n on an o < 65536 := Nat.lt_of_lt_of_le (zeN_lt on an o) (pp_16 (by omega))
theorem hv_C54 {n mo : Nat} {on an : Nat → Nat} (hn : n ≤ 4) : hv_C n mo on an ≤ 54 := cand_54 (ze_lt hn on an 0) (ze_lt hn on an 1) mo (tp_81 hn)
theorem updf_at {v : Nat → Int32} {f : Nat → Int32} : ∀ n a, a < n → fo (fun p g => upd g p (v p)) n f a = v a := by
  intro n
  induction n with
  | zero => intro a h; exact absurd h (Nat.not_lt_zero _)
  | succ n ih =>
    intro a h
    rw [fo_s]
    show (if a = n then v n else _) = v a
    by_cases e : a = n
    · rw [if_pos e, e]
    · rw [if_neg e]
      exact ih a (by omega)
theorem prI_at {p : Nat} (h : p < 81) : prI p = nI (W4 p) := by
  have := updf_at (v := fun p => nI (fo (mc_dsf p) 4 (65535, 0)).1) (f := fun _ => 0) 81 p h
  rw [show prI p = _ from this, (ds_ok p h).1]
theorem prS_at {p : Nat} (h : p < 81) : prS p = nI (szN p) := updf_at (v := fun p => nI (fo (mc_dsf p) 4 (65535, 0)).2) (f := fun _ => 0) 81 p h
theorem szN_4 {p : Nat} (h : p < 81) : szN p ≤ 4 := (ds_ok p h).2
theorem cnt_eq {P Q : Nat → Bool} : ∀ n, (∀ p, p < n → P p = Q p) → cnt P n = cnt Q n := by
  intro n
  induction n with
  | zero => intro _; rfl
  | succ n ih => intro h; rw [cnt_s, cnt_s, ih (fun p hp => h p (by omega)), h n (by omega)]
/-- the class's table, as it is behind fill -/
def CVw (n mo : Nat) (on an : Nat → Nat) (t : TB) : Prop := t.1 = hv_C n mo on an ∧ (∀ i, i < hv_C n mo on an → t.2.1 i = nI (hv_P n mo on an i) ∧ t.2.2.1 i = nI (hv_O n mo on an i) ∧ t.2.2.2.1 i = nI (szN (hv_P n mo on an i)) ∧ t.2.2.2.2.1 i = nI (W4 (hv_P n mo on an i)) ∧ (∀ q, q < 32 → zb (t.2.2.2.2.2.1 i) q = hv_b n mo on an i q) ∧ ∀ q, 32 ≤ q → zb (t.2.2.2.2.2.1 i) q = false) ∧ (∀ q, q < 32 → zb t.2.2.2.2.2.2.1 q = hv_d on q) ∧ (∀ q, 32 ≤ q → zb t.2.2.2.2.2.2.1 q = false) ∧ t.2.2.2.2.2.2.2.1 = mc_lon t.2.2.2.2.2.1 t.1
theorem q_split {q : Nat} (h : q < 32) : q / 16 < 2 ∧ q % 16 < 16 ∧ 16 * (q / 16) + q % 16 = q := ⟨by omega, by omega, Nat.div_add_mod q 16⟩
theorem fill_view {n mo : Nat} {on an : Nat → Nat} {one zer : Nat → Int32} (h : HvOK n mo on an) (h1 : ∀ o, o < 2 → one o = nI (on o)) (h2 : ∀ o, o < 2 → zer o = nI (zeN n on an o)) (t : TB) : CVw n mo on an (m_fill n mo one zer prI prS t) := by
  obtain ⟨⟨hn1, hn4⟩, ⟨hm1, hm2⟩, ho⟩ := h
  have h16 : 2 ^ 2 ^ n ≤ 65536 := pp_16 (by omega)
  have ho1 : ∀ o, o < 2 → one o = nI (on o) ∧ on o < 65536 := fun o q => ⟨h1 o q, Nat.lt_of_lt_of_le (ho o q).1 h16⟩
  have hz1 : ∀ o, o < 2 → zer o = nI (zeN n on an o) ∧ zeN n on an o < 65536 := fun o q => ⟨h2 o q, ze_lt hn4 on an o⟩
  have h81 : 3 ^ n ≤ 81 := tp_81 hn4
  obtain ⟨oop, hoop⟩ : ∃ z, z = fo (mc_oof prI zer mo) (tpow n) t.2.2.2.2.2.2.2.2 := ⟨_, rfl⟩
  have hop : ∀ p, p < 3 ^ n → oop p = nI (outsN (W4 p) (zeN n on an) mo) := by
    intro p hp
    rw [hoop, oof_at (tpow n) p hp, prI_at (by omega), outf_ok hz1 (w4_lt p (by omega)) hm2]
  have hic : ∀ p, p < 3 ^ n → mc_isc oop p = candN (zeN n on an) mo p := fun p hp => isc_cand hop hp
  have hcn : ∀ p, p ≤ 3 ^ n → cnt (mc_isc oop) p = cnt (candN (zeN n on an) mo) p := fun p hp => cnt_eq p (fun r hr => hic r (by omega))
  obtain ⟨f1, f2⟩ := fill_ok one prI prS oop t.2.1 t.2.2.1 t.2.2.2.1 t.2.2.2.2.1 t.2.2.2.2.2.1 (tpow n)
  have e1 : m_fill n mo one zer prI prS t = ((fo (mc_filf one prI prS oop) (tpow n) (0, t.2.1, t.2.2.1, t.2.2.2.1, t.2.2.2.2.1, t.2.2.2.2.2.1)).1, (fo (mc_filf one prI prS oop) (tpow n) (0, t.2.1, t.2.2.1, t.2.2.2.1, t.2.2.2.2.1, t.2.2.2.2.2.1)).2.1, (fo (mc_filf one prI prS oop) (tpow n) (0, t.2.1, t.2.2.1, t.2.2.2.1, t.2.2.2.2.1, t.2.2.2.2.2.1)).2.2.1, (fo (mc_filf one prI prS oop) (tpow n) (0, t.2.1, t.2.2.1, t.2.2.2.1, t.2.2.2.2.1, t.2.2.2.2.2.1)).2.2.2.1, (fo (mc_filf one prI prS oop) (tpow n) (0, t.2.1, t.2.2.1, t.2.2.2.1, t.2.2.2.2.1, t.2.2.2.2.2.1)).2.2.2.2.1, (fo (mc_filf one prI prS oop) (tpow n) (0, t.2.1, t.2.2.1, t.2.2.2.1, t.2.2.2.2.1, t.2.2.2.2.2.1)).2.2.2.2.2, fo (mc_plf one 3) 2 0, mc_lon (fo (mc_filf one prI prS oop) (tpow n) (0, t.2.1, t.2.2.1, t.2.2.2.1, t.2.2.2.2.1, t.2.2.2.2.2.1)).2.2.2.2.2 (fo (mc_filf one prI prS oop) (tpow n) (0, t.2.1, t.2.2.1, t.2.2.2.1, t.2.2.2.2.1, t.2.2.2.2.2.1)).1, oop) := by
    rw [hoop]; rfl
  rw [e1]
  have hc : (fo (mc_filf one prI prS oop) (tpow n) (0, t.2.1, t.2.2.1, t.2.2.2.1, t.2.2.2.2.1, t.2.2.2.2.2.1)).1 = hv_C n mo on an := f1.trans (hcn (3 ^ n) (Nat.le_refl _))
  have e3 : (3 : Int32) = nI 3 := rfl
  refine ⟨hc, fun i hi => ?_, fun q hq => ?_, fun q hq => ?_, rfl⟩
  · obtain ⟨g1, g2, g3⟩ := hv_P_ok hi
    obtain ⟨k1, k2, k3, k4, k5⟩ := f2 (hv_P n mo on an i) g1 ((hic _ g1).trans g2)
    rw [hcn _ (Nat.le_of_lt g1), g3] at k1 k2 k3 k4 k5
    have hp : hv_P n mo on an i < 81 := by omega
    refine ⟨k1, k2.trans (hop _ g1), k3.trans (prS_at hp), k4.trans (prI_at hp), fun q hq => ?_, fun q hq => ?_⟩
    · obtain ⟨q1, q2, q3⟩ := q_split hq
      have := pla_bits ho1 (w4_lt _ hp) (v := outsN (W4 (hv_P n mo on an i)) (zeN n on an) mo) (Nat.lt_of_lt_of_le (outsN_lt _ _ _) (by decide)) q1 q2
      rw [q3] at this
      refine (congrArg (fun z => zb z q) k5).trans ?_
      show zb (mc_pla one (prI (hv_P n mo on an i)) (oop (hv_P n mo on an i))) q = _
      rw [prI_at hp, hop _ g1]
      exact this
    · refine (congrArg (fun z => zb z q) k5).trans ?_
      show zb (mc_pla one (prI (hv_P n mo on an i)) (oop (hv_P n mo on an i))) q = _
      rw [hop _ g1]
      exact pla_high ho1 (Nat.lt_of_lt_of_le (outsN_lt _ _ _) (by decide)) hq
  · obtain ⟨q1, q2, q3⟩ := q_split hq
    have := plf_bits ho1 (v := 3) (by decide) q1 q2
    rw [q3, ← e3] at this
    refine this.trans ?_
    rw [show Nat.testBit 3 (q / 16) = true from (by rcases (show q / 16 = 0 ∨ q / 16 = 1 by omega) with e | e <;> rw [e] <;> decide), Bool.true_and]
    rfl
  · have := plf_high ho1 (v := 3) (by decide) hq
    rw [← e3] at this
    exact this
