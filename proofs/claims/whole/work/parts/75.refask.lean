theorem in5_yes {w : Int32} (h : (!decide (w < 0) && !decide (4 < w)) = true) : InN 5 w := (in_iff (n := 5) (by decide) w).mp (by rw [show nI 5 - 1 = (4 : Int32) from by decide]; exact h)
theorem in5_no {w : Int32} (h : (!decide (w < 0) && !decide (4 < w)) = false) : ¬ InN 5 w := in_no (n := 5) (by decide) (by rw [show nI 5 - 1 = (4 : Int32) from by decide]; exact h)
theorem candV_3 (u : RT) (k : Nat) : candV u k 3 = if (!decide (u.2.2.2.2.2.2.1 k &&& ((fo (mo_nef u.2.2.2.2.2.2.1 k) u.2.1 0) ^^^ (-1)) = 0)) = true then 1 else 0 := rfl
theorem candV_3t {u : RT} {k : Nat} (h : (!decide (u.2.2.2.2.2.2.1 k &&& ((fo (mo_nef u.2.2.2.2.2.2.1 k) u.2.1 0) ^^^ (-1)) = 0)) = true) : 1 = candV u k 3 := by rw [candV_3, if_pos h]
theorem candV_3f {u : RT} {k : Nat} (h : (!decide (u.2.2.2.2.2.2.1 k &&& ((fo (mo_nef u.2.2.2.2.2.2.1 k) u.2.1 0) ^^^ (-1)) = 0)) = false) : 0 = candV u k 3 := by rw [candV_3, if_neg (by rw [h]; decide)]
section VAP
variable {out cvs : Nat → Int32} {cn : Nat → Nat} {oo xx : Int32} {k : Nat}
theorem vaP_t (h1 : (out (cn k) >>> (oo &&& 31)) &&& 1 = 1) (h2 : (cvs (cn k) >>> (xx &&& 31)) &&& 1 = 1) : mo_vaP out cvs cn oo xx k = true := by
  unfold mo_vaP; rw [decide_eq_true h1, decide_eq_true h2]; rfl
theorem vaP_f1 (h1 : ¬ (out (cn k) >>> (oo &&& 31)) &&& 1 = 1) : mo_vaP out cvs cn oo xx k = false := by
  unfold mo_vaP; rw [decide_eq_false h1]; rfl
theorem vaP_f2 (h2 : ¬ (cvs (cn k) >>> (xx &&& 31)) &&& 1 = 1) : mo_vaP out cvs cn oo xx k = false := by
  unfold mo_vaP; rw [decide_eq_false h2, Bool.and_false]
end VAP
