/-! the reference's search, as functions of numbers -/
def ib (x : Int32) (i : Nat) : Bool := x.toBitVec.getLsbD i
theorem ib_c : ∀ k, k < 32 → (((nI k).toUInt32 &&& Int32.toUInt32 31).toBitVec % 32).toNat = k := by decide +kernel
theorem ib_ush (x : Int32) {p : Nat} (hp : p < 32) : (x.toUInt32 >>> ((nI p).toUInt32 &&& Int32.toUInt32 31)).toInt32 &&& 1 = nI (if ib x p = true then 1 else 0) := by
  rw [pk_and _ (m := 1) 1 rfl, pk_ushr x (nI p) p (ib_c p hp)]
  congr 1
  have e : ib x p = Nat.testBit x.toBitVec.toNat p := rfl
  rw [e, Nat.testBit_eq_decide_div_mod_eq]
  by_cases h : x.toBitVec.toNat / 2 ^ p % 2 = 1
  · rw [decide_eq_true h, if_pos rfl]; exact h
  · rw [decide_eq_false h, if_neg (by decide)]
    have : x.toBitVec.toNat / 2 ^ p % 2 ^ 1 = x.toBitVec.toNat / 2 ^ p % 2 := rfl
    omega
def mo_mof (lf : Int32) (cov : Nat → Int32) : Nat → Nat → Nat := fun k a => if a < cnt (ib (lf &&& cov k)) 32 then cnt (ib (lf &&& cov k)) 32 else a
theorem mo_mof_le (lf : Int32) (cov : Nat → Int32) : ∀ n, fo (mo_mof lf cov) n 0 ≤ 32 := by
  intro n
  induction n with
  | zero => exact Nat.zero_le _
  | succ n ih =>
    rw [fo_s]
    have h := cnt_bound (ib (lf &&& cov n)) 32
    generalize fo (mo_mof lf cov) n 0 = a at ih ⊢
    unfold mo_mof
    split <;> omega
def mo_hop (lf : Int32) (cov : Nat → Int32) (mn rn : Nat) : Bool := decide (fo (mo_mof lf cov) mn 0 * rn < cnt (ib lf) 32)
/-- how many candidates serve point p -/
def mo_srv (cov : Nat → Int32) (mn p : Nat) : Nat := cnt (fun k => ib (cov k) p) mn
def mo_pof (lf : Int32) (cov : Nat → Int32) (mn : Nat) : Nat → Int32 × Nat → Int32 × Nat := fun p a =>
  if ib lf p = true then (if a.1 < 0 ∨ mo_srv cov mn p < a.2 then (nI p, mo_srv cov mn p) else (a.1, if a.1 = nI p then mo_srv cov mn p else a.2)) else a
theorem mo_pof_f {lf : Int32} {cov : Nat → Int32} {mn p : Nat} (h : ib lf p = false) (a : Int32 × Nat) : mo_pof lf cov mn p a = a := if_neg (by rw [h]; decide)
theorem mo_pof_a {lf : Int32} {cov : Nat → Int32} {mn p : Nat} (h : ib lf p = true) (a : Int32 × Nat) (h2 : a.1 < 0 ∨ mo_srv cov mn p < a.2) : mo_pof lf cov mn p a = (nI p, mo_srv cov mn p) := (if_pos h).trans (if_pos h2)
theorem mo_pof_b {lf : Int32} {cov : Nat → Int32} {mn p : Nat} (h : ib lf p = true) (a : Int32 × Nat) (h2 : ¬ (a.1 < 0 ∨ mo_srv cov mn p < a.2)) : mo_pof lf cov mn p a = (a.1, if a.1 = nI p then mo_srv cov mn p else a.2) := (if_pos h).trans (if_neg h2)
def mo_po (lf : Int32) (cov : Nat → Int32) (mn : Nat) : Int32 := (fo (mo_pof lf cov mn) 32 (-1, 0)).1
theorem mo_pof_le (lf : Int32) (cov : Nat → Int32) (mn : Nat) : ∀ n, (fo (mo_pof lf cov mn) n (-1, 0)).2 ≤ mn := by
  intro n
  induction n with
  | zero => exact Nat.zero_le _
  | succ n ih =>
    rw [fo_s]
    have h : mo_srv cov mn n ≤ mn := cnt_bound _ mn
    generalize fo (mo_pof lf cov mn) n (-1, 0) = a at ih ⊢
    unfold mo_pof
    split
    · split
      · exact h
      · show (if a.1 = nI n then mo_srv cov mn n else a.2) ≤ mn
        split <;> assumption
    · exact ih
def mo_less (lo hi ol oh : Int64) : Bool := if lo ^^^ ol = 0 then !decide ((hi &&& (hi ^^^ oh)) &&& -(hi ^^^ oh) = 0) else !decide ((lo &&& (lo ^^^ ol)) &&& -(lo ^^^ ol) = 0)
theorem mo_less_e {lo hi ol oh : Int64} (h : lo ^^^ ol = 0) : mo_less lo hi ol oh = !decide ((hi &&& (hi ^^^ oh)) &&& -(hi ^^^ oh) = 0) := if_pos h
theorem mo_less_n {lo hi ol oh : Int64} (h : ¬ lo ^^^ ol = 0) : mo_less lo hi ol oh = !decide ((lo &&& (lo ^^^ ol)) &&& -(lo ^^^ ol) = 0) := if_neg h
def mo_lo (k : Nat) (lo : Int64) : Int64 := if k < 41 then lo ||| zo k else lo
def mo_hi (k : Nat) (hi : Int64) : Int64 := if k < 41 then hi else hi ||| zo (k - 41)
def mo_bis (pa bz : Nat → Int32) (bl bh : Nat → Int64) (d k : Nat) (sz : Int32) (lo hi : Int64) : Bool := !decide (sz < 0) && (decide (bz d < 0) || (decide (sz + pa k < bz d) || (decide (sz + pa k = bz d) && mo_less (mo_lo k lo) (mo_hi k hi) (bl d) (bh d))))
def mo_bet (pa bz : Nat → Int32) (bl bh : Nat → Int64) (d k : Nat) (sz : Int32) (lo hi : Int64) : (Nat → Int32) × (Nat → Int64) × (Nat → Int64) := if mo_bis pa bz bl bh d k sz lo hi = true then (upd bz d (sz + pa k), vp_updL bl d (mo_lo k lo), vp_updL bh d (mo_hi k hi)) else (bz, bl, bh)
theorem mo_bet_t {pa bz : Nat → Int32} {bl bh : Nat → Int64} {d k : Nat} {sz : Int32} {lo hi : Int64} (h : mo_bis pa bz bl bh d k sz lo hi = true) : mo_bet pa bz bl bh d k sz lo hi = (upd bz d (sz + pa k), vp_updL bl d (mo_lo k lo), vp_updL bh d (mo_hi k hi)) := if_pos h
theorem mo_bet_f {pa bz : Nat → Int32} {bl bh : Nat → Int64} {d k : Nat} {sz : Int32} {lo hi : Int64} (h : mo_bis pa bz bl bh d k sz lo hi = false) : mo_bet pa bz bl bh d k sz lo hi = (bz, bl, bh) := if_neg (by rw [h]; decide)
