/-! what the reference's answers are, by the kinds of arguments -/
theorem in_inj {n k : Nat} (hn : n ≤ 2 ^ 20) {j : Nat} (hk : k < 2 ^ 20) (hj : j < n) (e : nI k = nI j) : k = j := (nI_eq (by omega) (by omega)).mp e
theorem candp_ok {u : RT} {w thr res : Int32} {k j : Nat} (h : CandP u (nI k) w thr res) (hu : u.2.1 ≤ 81) (hk : k < u.2.1) (hj : j < 5) (hw : w = nI j) : thr = 0 ∧ res = candV u k j := by
  rcases h with ⟨a, -⟩ | ⟨-, a, -⟩ | ⟨k2, j2, a1, a2, a3, a4, a5, a6⟩
  · exact absurd ⟨k, hk, rfl⟩ a
  · exact absurd ⟨j, hj, hw⟩ a
  · have e1 : k = k2 := (nI_eq (by omega) (by omega)).mp a2
    have e2 : j = j2 := (nI_eq (by omega) (by omega)).mp (hw.symm.trans a4)
    subst e1; subst e2
    exact ⟨a5, a6⟩
theorem candp_o {u : RT} {ix w thr res : Int32} (h : CandP u ix w thr res) (hno : ¬ InN u.2.1 ix) : thr = 1 := by
  rcases h with ⟨-, a⟩ | ⟨a, -⟩ | ⟨k2, j2, a1, a2, -⟩
  · exact a
  · exact absurd a hno
  · exact absurd ⟨k2, a1, a2⟩ hno
theorem candp_x {u : RT} {ix w thr res : Int32} (h : CandP u ix w thr res) (hi : InN u.2.1 ix) (hno : ¬ InN 5 w) : thr = 2 := by
  rcases h with ⟨a, -⟩ | ⟨-, -, a⟩ | ⟨k2, j2, -, -, a3, a4, -⟩
  · exact absurd hi a
  · exact a
  · exact absurd ⟨j2, a3, a4⟩ hno
theorem chop_ok {u : RT} {thr res : Int32} {k : Nat} (h : ChoP u (nI k) thr res) (hu : u.2.2.2.2.2.2.2.2.1 ≤ 81) (hk : k < u.2.2.2.2.2.2.2.2.1) : thr = 0 ∧ res = u.2.2.2.2.2.2.2.1 k := by
  rcases h with ⟨a, -⟩ | ⟨k2, a1, a2, a3, a4⟩
  · exact absurd ⟨k, hk, rfl⟩ a
  · have e1 : k = k2 := (nI_eq (by omega) (by omega)).mp a2
    subst e1
    exact ⟨a3, a4⟩
theorem chop_o {u : RT} {ix thr res : Int32} (h : ChoP u ix thr res) (hno : ¬ InN u.2.2.2.2.2.2.2.2.1 ix) : thr = 1 := by
  rcases h with ⟨-, a⟩ | ⟨k2, a1, a2, -⟩
  · exact a
  · exact absurd ⟨k2, a1, a2⟩ hno
theorem valp_ok {nn mo : Nat} {u : RT} {oo xx thr res : Int32} (h : ValP nn mo u oo xx thr res) (h1 : InN mo oo) (h2 : InN (2 ^ nn) xx) : thr = 0 ∧ res = if exn u.2.2.2.2.2.2.2.2.1 (mo_vaP u.2.2.2.1 u.2.2.2.2.2.1 (cnOf u) oo xx) = true then 1 else 0 := by
  rcases h with ⟨a, -⟩ | ⟨-, a, -⟩ | ⟨-, -, a, b⟩
  · exact absurd h1 a
  · exact absurd h2 a
  · exact ⟨a, b⟩
theorem valp_o {nn mo : Nat} {u : RT} {oo xx thr res : Int32} (h : ValP nn mo u oo xx thr res) (h1 : ¬ InN mo oo) : thr = 1 := by
  rcases h with ⟨-, a⟩ | ⟨a, -⟩ | ⟨a, -⟩
  · exact a
  · exact absurd a h1
  · exact absurd a h1
theorem valp_x {nn mo : Nat} {u : RT} {oo xx thr res : Int32} (h : ValP nn mo u oo xx thr res) (h1 : InN mo oo) (h2 : ¬ InN (2 ^ nn) xx) : thr = 2 := by
  rcases h with ⟨a, -⟩ | ⟨-, -, a⟩ | ⟨-, a, -⟩
  · exact absurd h1 a
  · exact a
  · exact absurd a h2
theorem setp_ok {nn mo : Nat} {one any : Nat → Int32} {kno x y : Int32} {j : Nat} {v : Int32 × (Nat → Int32) × (Nat → Int32) × Int32} (h : SetP nn mo one any kno (nI j) x y v) (hm : mo ≤ 2) (hj : j < mo) (hs : SetIn nn x y) : v = (0, upd one j x, upd any j y, 0) := by
  rcases h with ⟨a, -⟩ | ⟨-, a, -⟩ | ⟨j2, a1, a2, a3, a4⟩
  · exact absurd ⟨j, hj, rfl⟩ a
  · exact absurd hs a
  · have e1 : j = j2 := (nI_eq (by omega) (by omega)).mp a2
    subst e1
    exact a4
theorem setp_o {nn mo : Nat} {one any : Nat → Int32} {kno k x y : Int32} {v : Int32 × (Nat → Int32) × (Nat → Int32) × Int32} (h : SetP nn mo one any kno k x y v) (hno : ¬ InN mo k) : v = (1, one, any, kno) := by
  rcases h with ⟨-, a⟩ | ⟨a, -⟩ | ⟨j2, a1, a2, -⟩
  · exact a
  · exact absurd a hno
  · exact absurd ⟨j2, a1, a2⟩ hno
theorem setp_x {nn mo : Nat} {one any : Nat → Int32} {kno k x y : Int32} {v : Int32 × (Nat → Int32) × (Nat → Int32) × Int32} (h : SetP nn mo one any kno k x y v) (hi : InN mo k) (hno : ¬ SetIn nn x y) : v = (2, one, any, kno) := by
  rcases h with ⟨a, -⟩ | ⟨-, -, a⟩ | ⟨j2, -, -, a3, -⟩
  · exact absurd hi a
  · exact a
  · exact absurd a3 hno
theorem oko_no {mo : Nat} (hm : mo ≤ 2) {o : Int32} (h : ¬ InN mo o) : (!decide (o < 0) && !decide (nI mo ≤ o)) = false := by
  cases hq : (!decide (o < 0) && !decide (nI mo ≤ o)) with
  | false => rfl
  | true => exact absurd ((oko_iff hm o).mp hq) h
theorem set_no {n : Nat} {x y : Int32} (hn : n ≤ 4) (h : ¬ SetIn n x y) : ¬ (x ||| y) &&& (mc_all (nI n) ^^^ (-1)) = 0 ∨ ¬ x &&& y = 0 := by
  by_cases q : (x ||| y) &&& (mc_all (nI n) ^^^ (-1)) = 0
  · exact Or.inr fun z => h ((set_iff hn).mpr ⟨q, z⟩)
  · exact Or.inl q
theorem in_no2 {n : Nat} (hn : n < 2 ^ 31) {x : Int32} (h : ¬ InN n x) : x < 0 ∨ ¬ x < nI n := by
  by_cases q : x < 0
  · exact Or.inl q
  · exact Or.inr fun z => h ((in_lt hn x).mpr ⟨q, z⟩)
theorem in5_bad {w : Int32} (h : ¬ InN 5 w) : w.toInt < 0 ∨ 4 < w.toInt := Classical.byContradiction fun z => h ((in5_iff w).mpr z)
theorem sh_lt {nn x : Nat} (hn : nn ≤ 4) (hx : x < 2 ^ nn) : nI x < (1 : Int32) <<< (nI nn &&& 31) := by
  have h16 : 2 ^ nn ≤ 16 := Nat.pow_le_pow_right (n := 2) (by decide) hn
  rw [sh_one hn]
  exact (nI_ltI (by omega) (by omega)).mpr hx
theorem sh_bad {nn : Nat} {x : Int32} (hn : nn ≤ 4) (h : ¬ InN (2 ^ nn) x) : x < 0 ∨ ¬ x < (1 : Int32) <<< (nI nn &&& 31) := by
  have h16 : 2 ^ nn ≤ 16 := Nat.pow_le_pow_right (n := 2) (by decide) hn
  rw [sh_one hn]
  exact in_no2 (by omega) h
