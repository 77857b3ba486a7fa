/-! the reference's table, and what its methods answer -/
/-- known; many, numbers, of, parts, covers, covered; choice, chosen; the search -/
abbrev RT : Type := Int32 × Nat × (Nat → Int32) × (Nat → Int32) × (Nat → Int32) × (Nat → Int32) × (Nat → Int32) × (Nat → Int32) × Nat × MS
abbrev FR : Type := Nat × (Nat → Int32) × (Nat → Int32) × (Nat → Int32) × (Nat → Int32) × (Nat → Int32)
def mo_cvd (one : Nat → Int32) (o c : Int32) : Int32 := (if o &&& 1 = 1 then c &&& one 0 else 0) ||| ((if o &&& 2 = 2 then c &&& one 1 else 0) <<< (16 &&& 31))
def mo_fif (nn mo : Nat) (one any : Nat → Int32) : Nat → FR → FR := fun p a => if mo_ca nn mo one any p = true then (a.1 + 1, upd a.2.1 a.1 (nI p), upd a.2.2.1 a.1 (mo_out nn mo one any p), upd a.2.2.2.1 a.1 (nI (mo_pa nn p)), upd a.2.2.2.2.1 a.1 (mo_on nn p), upd a.2.2.2.2.2 a.1 (mo_cvd one (mo_out nn mo one any p) (mo_on nn p))) else a
theorem mo_fif_t {nn mo : Nat} {one any : Nat → Int32} {p : Nat} (h : mo_ca nn mo one any p = true) (a : FR) : mo_fif nn mo one any p a = (a.1 + 1, upd a.2.1 a.1 (nI p), upd a.2.2.1 a.1 (mo_out nn mo one any p), upd a.2.2.2.1 a.1 (nI (mo_pa nn p)), upd a.2.2.2.2.1 a.1 (mo_on nn p), upd a.2.2.2.2.2 a.1 (mo_cvd one (mo_out nn mo one any p) (mo_on nn p))) := if_pos h
theorem mo_fif_f {nn mo : Nat} {one any : Nat → Int32} {p : Nat} (h : mo_ca nn mo one any p = false) (a : FR) : mo_fif nn mo one any p a = a := if_neg (by rw [h]; decide)
theorem mo_fif_le {nn mo : Nat} {one any : Nat → Int32} (f : (Nat → Int32) × (Nat → Int32) × (Nat → Int32) × (Nat → Int32) × (Nat → Int32)) : ∀ n, (fo (mo_fif nn mo one any) n (0, f)).1 ≤ n := by
  intro n
  induction n with
  | zero => exact Nat.le_refl 0
  | succ n ih =>
    rw [fo_s]
    cases h : mo_ca nn mo one any n with
    | true => rw [mo_fif_t h]; show _ + 1 ≤ n + 1; omega
    | false => rw [mo_fif_f h]; omega
/-- the table, once n products are looked at -/
def mo_fi (nn mo : Nat) (one any : Nat → Int32) (r : RT) (n : Nat) : FR := fo (mo_fif nn mo one any) n (0, r.2.2.1, r.2.2.2.1, r.2.2.2.2.1, r.2.2.2.2.2.1, r.2.2.2.2.2.2.1)
theorem mo_fi_s (nn mo : Nat) (one any : Nat → Int32) (r : RT) (n : Nat) : mo_fi nn mo one any r (n + 1) = mo_fif nn mo one any n (mo_fi nn mo one any r n) := rfl
theorem mo_fi_le (nn mo : Nat) (one any : Nat → Int32) (r : RT) (n : Nat) : (mo_fi nn mo one any r n).1 ≤ n := mo_fif_le _ n
/-- what the search needs of the table -/
def FOK (nn mo : Nat) (one any : Nat → Int32) (pn : Nat → Nat) (r : RT) : Prop :=
  (∀ j, j < (mo_fi nn mo one any r (tpow nn)).1 → (mo_fi nn mo one any r (tpow nn)).2.2.2.1 j = nI (pn j) ∧ pn j ≤ 4) ∧ Cv (mo_fi nn mo one any r (tpow nn)).1 (mo_fi nn mo one any r (tpow nn)).2.2.2.2.2 (mo_left one) (fun k => decide (k < (mo_fi nn mo one any r (tpow nn)).1))
/-- what find leaves -/
def FindOK (nn mo : Nat) (one any : Nat → Int32) (pn : Nat → Nat) (r u : RT) : Prop :=
  (¬ r.1 = 0 ∧ u = r) ∨ (r.1 = 0 ∧ u.1 = 1 ∧ (u.2.1, u.2.2.1, u.2.2.2.1, u.2.2.2.2.1, u.2.2.2.2.2.1, u.2.2.2.2.2.2.1) = mo_fi nn mo one any r (tpow nn) ∧ SolOK u.2.1 u.2.2.2.2.2.2.1 pn (mo_left one) r.2.2.2.2.2.2.2.1 (u.2.2.2.2.2.2.2.2.2, u.2.2.2.2.2.2.2.1, u.2.2.2.2.2.2.2.2.1))
/-- the choice, as numbers -/
def cnOf (u : RT) (k : Nat) : Nat := (u.2.2.2.2.2.2.2.1 k).toNatClampNeg
def GdR (u : RT) : Prop := u.2.1 ≤ 81 ∧ u.2.2.2.2.2.2.2.2.1 ≤ 81 ∧ ∀ k, k < u.2.2.2.2.2.2.2.2.1 → u.2.2.2.2.2.2.2.1 k = nI (cnOf u k) ∧ cnOf u k < 81
def mo_sumf (pa : Nat → Int32) (cn : Nat → Nat) : Nat → Int32 → Int32 := fun k a => a + pa (cn k)
def mo_vaP (out cvs : Nat → Int32) (cn : Nat → Nat) (oo xx : Int32) (k : Nat) : Bool := decide ((out (cn k) >>> (oo &&& 31)) &&& 1 = 1) && decide ((cvs (cn k) >>> (xx &&& 31)) &&& 1 = 1)
theorem exn_s (n : Nat) (P : Nat → Bool) : exn (n + 1) P = (exn n P || P n) := rfl
def mo_thf (num cov : Nat → Int32) (mn : Nat) (fm must : Int32) : Nat → Int64 × Int64 × Nat → Int64 × Int64 × Nat := fun k a =>
  if num (mn - 1 - k) < fm then a else if mo_cb num cov mn fm (mo_lo (mn - 1 - k) a.1) (mo_hi (mn - 1 - k) a.2.1) = must then (mo_lo (mn - 1 - k) a.1, mo_hi (mn - 1 - k) a.2.1, a.2.2) else (a.1, a.2.1, a.2.2 + 1)
def mo_thin (num cov : Nat → Int32) (mn : Nat) (fm must : Int32) : Int32 := if mo_cb num cov mn fm 0 0 = must then nI (fo (mo_thf num cov mn fm must) mn (0, 0, 0)).2.2 else -1
theorem th_neg2 {cn k : Nat} (hc : cn ≤ 81) (hk : k ≤ cn) : nI (cn - k) - 1 < 0 ↔ cn = k := by
  rcases Nat.eq_zero_or_pos (cn - k) with h | h
  · rw [h]
    exact ⟨fun _ => by omega, fun _ => by decide⟩
  · obtain ⟨d, hd⟩ : ∃ d, cn - k = d + 1 := ⟨cn - k - 1, by omega⟩
    rw [hd, nI_pred]
    exact ⟨fun q => absurd q (nI_pos (by omega)), fun q => by omega⟩
theorem thf_a {num cov : Nat → Int32} {mn : Nat} {fm must : Int32} {k : Nat} (h : num (mn - 1 - k) < fm) (a : Int64 × Int64 × Nat) : mo_thf num cov mn fm must k a = a := if_pos h
theorem thf_b {num cov : Nat → Int32} {mn : Nat} {fm must : Int32} {k : Nat} (h : ¬ num (mn - 1 - k) < fm) {a : Int64 × Int64 × Nat} (h2 : mo_cb num cov mn fm (mo_lo (mn - 1 - k) a.1) (mo_hi (mn - 1 - k) a.2.1) = must) : mo_thf num cov mn fm must k a = (mo_lo (mn - 1 - k) a.1, mo_hi (mn - 1 - k) a.2.1, a.2.2) := (if_neg h).trans (if_pos h2)
theorem thf_c {num cov : Nat → Int32} {mn : Nat} {fm must : Int32} {k : Nat} (h : ¬ num (mn - 1 - k) < fm) {a : Int64 × Int64 × Nat} (h2 : ¬ mo_cb num cov mn fm (mo_lo (mn - 1 - k) a.1) (mo_hi (mn - 1 - k) a.2.1) = must) : mo_thf num cov mn fm must k a = (a.1, a.2.1, a.2.2 + 1) := (if_neg h).trans (if_neg h2)
/-- x is a number below n -/
def InN (n : Nat) (x : Int32) : Prop := ∃ k, k < n ∧ x = nI k
theorem nI_nn {x : Int32} (h : ¬ x < 0) : x = nI x.toBitVec.toNat ∧ x.toBitVec.toNat < 2 ^ 31 := by
  have h1 : (0 : Int) ≤ x.toInt := by
    have := Int32.not_lt.mp h
    exact Int32.le_iff_toInt_le.mp this
  have h2 : x.toBitVec.toNat < 2 ^ 31 := by
    have e : x.toInt = x.toBitVec.toInt := rfl
    rw [e, BitVec.toInt_eq_toNat_cond] at h1
    split at h1 <;> omega
  refine ⟨?_, h2⟩
  apply Int32.toBitVec_inj.1
  apply BitVec.eq_of_toNat_eq
  show _ = (BitVec.ofNat 32 x.toBitVec.toNat).toNat
  rw [BitVec.toNat_ofNat, Nat.mod_eq_of_lt (by omega)]
theorem in_iff {n : Nat} (hn : n ≤ 2 ^ 20) (x : Int32) : (!decide (x < 0) && !decide (nI n - 1 < x)) = true ↔ InN n x := by
  rw [Bool.and_eq_true, Bool.not_eq_true', Bool.not_eq_true', decide_eq_false_iff_not, decide_eq_false_iff_not]
  constructor
  · rintro ⟨a, b⟩
    obtain ⟨e, hl⟩ := nI_nn a
    refine ⟨x.toBitVec.toNat, ?_, e⟩
    rcases Nat.eq_zero_or_pos n with z | z
    · subst z
      exfalso
      apply b
      rw [e]
      show (-1 : Int32) < _
      exact Int32.lt_iff_toInt_lt.mpr (by rw [nI_toInt hl]; show (-1 : Int) < _; omega)
    · obtain ⟨d, rfl⟩ : ∃ d, n = d + 1 := ⟨n - 1, by omega⟩
      rw [nI_pred, e, nI_ltI (by omega) hl] at b
      omega
  · rintro ⟨k, hk, rfl⟩
    refine ⟨nI_pos (by omega), ?_⟩
    obtain ⟨d, rfl⟩ : ∃ d, n = d + 1 := ⟨n - 1, by omega⟩
    rw [nI_pred, nI_ltI (by omega) (by omega)]
    omega
theorem in_no {n : Nat} (hn : n ≤ 2 ^ 20) {x : Int32} (h : (!decide (x < 0) && !decide (nI n - 1 < x)) = false) : ¬ InN n x := fun q => by
  rw [(in_iff hn x).mpr q] at h; cases h
/-- what candidate(i, what) tells -/
def candV (u : RT) (k j : Nat) : Int32 := if j = 0 then u.2.2.1 k else if j = 1 then u.2.2.2.1 k else if j = 2 then u.2.2.2.2.1 k else if j = 3 then (if (!decide (u.2.2.2.2.2.2.1 k &&& ((fo (mo_nef u.2.2.2.2.2.2.1 k) u.2.1 0) ^^^ (-1)) = 0)) = true then 1 else 0) else u.2.2.2.2.2.1 k
def CandP (u : RT) (ix w thr res : Int32) : Prop := (¬ InN u.2.1 ix ∧ thr = 1) ∨ (InN u.2.1 ix ∧ ¬ InN 5 w ∧ thr = 2) ∨ ∃ k j, k < u.2.1 ∧ ix = nI k ∧ j < 5 ∧ w = nI j ∧ thr = 0 ∧ res = candV u k j
def ChoP (u : RT) (ix thr res : Int32) : Prop := (¬ InN u.2.2.2.2.2.2.2.2.1 ix ∧ thr = 1) ∨ ∃ k, k < u.2.2.2.2.2.2.2.2.1 ∧ ix = nI k ∧ thr = 0 ∧ res = u.2.2.2.2.2.2.2.1 k
def ValP (nn mo : Nat) (u : RT) (oo xx thr res : Int32) : Prop := (¬ InN mo oo ∧ thr = 1) ∨ (InN mo oo ∧ ¬ InN (2 ^ nn) xx ∧ thr = 2) ∨ (InN mo oo ∧ InN (2 ^ nn) xx ∧ thr = 0 ∧ res = if exn u.2.2.2.2.2.2.2.2.1 (mo_vaP u.2.2.2.1 u.2.2.2.2.2.1 (cnOf u) oo xx) = true then 1 else 0)
/-- an output's set that is allowed -/
def SetIn (nn : Nat) (x y : Int32) : Prop := (!decide (x < 0) && !decide (mc_all (nI nn) < x)) = true ∧ (!decide (y < 0) && !decide (mc_all (nI nn) < y)) = true ∧ x &&& y = 0
def SetP (nn mo : Nat) (one any : Nat → Int32) (kno : Int32) (k x y : Int32) (v : Int32 × (Nat → Int32) × (Nat → Int32) × Int32) : Prop :=
  (¬ InN mo k ∧ v = (1, one, any, kno)) ∨ (InN mo k ∧ ¬ SetIn nn x y ∧ v = (2, one, any, kno)) ∨ ∃ j, j < mo ∧ k = nI j ∧ SetIn nn x y ∧ v = (0, upd one j x, upd any j y, 0)
