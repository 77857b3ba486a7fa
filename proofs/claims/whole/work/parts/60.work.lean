/-! one step of the reference's search -/
theorem fi_go2 {P : Nat → Bool} {n j : Nat} (h : P j = false) (hj : j < n) (hl : j ≤ fi P n) : j < fi P n := by
  rcases Nat.lt_or_ge j (fi P n) with q | q
  · exact q
  · have e : fi P n = j := by omega
    have h2 := fi_yes P n (by omega)
    rw [e, h] at h2; cases h2
theorem free_sp {th le ro : Nat → Int32} (hf : ∃ a, a < 65536 ∧ th a = 0) (lf rr : Int32) : ∃ j, j < 65536 ∧ mo_sp th le ro lf rr j = true := by
  obtain ⟨a, ha, h0⟩ := hf
  have hh : mo_h lf rr < 65536 := Nat.mod_lt _ (by decide)
  refine ⟨(a + 65536 - mo_h lf rr) % 65536, Nat.mod_lt _ (by decide), ?_⟩
  have e : (mo_h lf rr + (a + 65536 - mo_h lf rr) % 65536) % 65536 = a := by omega
  unfold mo_sp
  rw [e, decide_eq_true h0]; rfl
def mo_px (cov : Nat → Int32) (pq k0 j : Nat) : Bool := ib (cov (k0 + j)) pq
/-- the next candidate from k0 on that serves point pq, or mn -/
def mo_nx (cov : Nat → Int32) (pq mn k0 : Nat) : Nat := k0 + fi (mo_px cov pq k0) (mn - k0)
/-- the memo; waitLeft, waitPoint, waitNext, waitRoom, bestSize, bestLow, bestHigh; deep; came, cameSize, cameLow, cameHigh -/
abbrev MS : Type := MT × ((Nat → Int32) × (Nat → Int32) × (Nat → Int32) × (Nat → Int32) × (Nat → Int32) × (Nat → Int64) × (Nat → Int64)) × Nat × Int32 × Int32 × Int64 × Int64
/-- the bests, once what came is looked at -/
def mw_b1 (pa : Nat → Int32) (k0 : Nat) (ms : MS) : (Nat → Int32) × (Nat → Int64) × (Nat → Int64) := if ms.2.2.2.1 = 0 then (ms.2.1.2.2.2.2.1, ms.2.1.2.2.2.2.2.1, ms.2.1.2.2.2.2.2.2) else mo_bet pa ms.2.1.2.2.2.2.1 ms.2.1.2.2.2.2.2.1 ms.2.1.2.2.2.2.2.2 (ms.2.2.1 - 1) (k0 - 1) ms.2.2.2.2.1 ms.2.2.2.2.2.1 ms.2.2.2.2.2.2
theorem mw_b1_t {pa : Nat → Int32} {k0 : Nat} {ms : MS} (h : ms.2.2.2.1 = 0) : mw_b1 pa k0 ms = (ms.2.1.2.2.2.2.1, ms.2.1.2.2.2.2.2.1, ms.2.1.2.2.2.2.2.2) := if_pos h
theorem mw_b1_f {pa : Nat → Int32} {k0 : Nat} {ms : MS} (h : ¬ ms.2.2.2.1 = 0) : mw_b1 pa k0 ms = mo_bet pa ms.2.1.2.2.2.2.1 ms.2.1.2.2.2.2.2.1 ms.2.1.2.2.2.2.2.2 (ms.2.2.1 - 1) (k0 - 1) ms.2.2.2.2.1 ms.2.2.2.2.2.1 ms.2.2.2.2.2.2 := if_neg h
def mw_rs (cov : Nat → Int32) (K : Nat) (ms : MS) : Int32 := ms.2.1.1 (ms.2.2.1 - 1) &&& (cov K ^^^ (-1))
def mw_at (cov : Nat → Int32) (K rn : Nat) (ms : MS) : Nat := mo_at ms.1.1 ms.1.2.1 ms.1.2.2.1 (mw_rs cov K ms) (nI (rn - 1))
/-- a frame that is done -/
def mw_pop (b1 : (Nat → Int32) × (Nat → Int64) × (Nat → Int64)) (K : Nat) (ms : MS) : MS :=
  (mo_keep (ms.2.1.1 (ms.2.2.1 - 1)) (ms.2.1.2.2.2.1 (ms.2.2.1 - 1)) (b1.1 (ms.2.2.1 - 1)) (b1.2.1 (ms.2.2.1 - 1)) (b1.2.2 (ms.2.2.1 - 1)) ms.1,
   (ms.2.1.1, ms.2.1.2.1, upd ms.2.1.2.2.1 (ms.2.2.1 - 1) (nI (K + 1)), ms.2.1.2.2.2.1, b1.1, b1.2.1, b1.2.2), ms.2.2.1 - 1, 1, b1.1 (ms.2.2.1 - 1), b1.2.1 (ms.2.2.1 - 1), b1.2.2 (ms.2.2.1 - 1))
/-- a frame that goes on, with bests b -/
def mw_on (b : (Nat → Int32) × (Nat → Int64) × (Nat → Int64)) (K : Nat) (ms : MS) : MS :=
  (ms.1, (ms.2.1.1, ms.2.1.2.1, upd ms.2.1.2.2.1 (ms.2.2.1 - 1) (nI (K + 1)), ms.2.1.2.2.2.1, b.1, b.2.1, b.2.2), ms.2.2.1, 0, ms.2.2.2.2.1, ms.2.2.2.2.2.1, ms.2.2.2.2.2.2)
/-- a new frame -/
def mw_push (mn : Nat) (cov : Nat → Int32) (b1 : (Nat → Int32) × (Nat → Int64) × (Nat → Int64)) (K rn : Nat) (ms : MS) : MS :=
  (ms.1, (upd ms.2.1.1 ms.2.2.1 (mw_rs cov K ms), upd ms.2.1.2.1 ms.2.2.1 (mo_po (mw_rs cov K ms) cov mn), upd (upd ms.2.1.2.2.1 (ms.2.2.1 - 1) (nI (K + 1))) ms.2.2.1 0, upd ms.2.1.2.2.2.1 ms.2.2.1 (nI (rn - 1)), upd b1.1 ms.2.2.1 (-1), b1.2.1, b1.2.2), ms.2.2.1 + 1, 0, ms.2.2.2.2.1, ms.2.2.2.2.2.1, ms.2.2.2.2.2.2)
def mo_work (mn : Nat) (cov pa : Nat → Int32) (k0 pq rn : Nat) (ms : MS) : MS :=
  if mo_nx cov pq mn k0 = mn then mw_pop (mw_b1 pa k0 ms) (mo_nx cov pq mn k0) ms
  else if mw_rs cov (mo_nx cov pq mn k0) ms = 0 then mw_on (mo_bet pa (mw_b1 pa k0 ms).1 (mw_b1 pa k0 ms).2.1 (mw_b1 pa k0 ms).2.2 (ms.2.2.1 - 1) (mo_nx cov pq mn k0) 0 0 0) (mo_nx cov pq mn k0) ms
  else if ¬ ms.1.1 (mw_at cov (mo_nx cov pq mn k0) rn ms) = 0 then mw_on (mo_bet pa (mw_b1 pa k0 ms).1 (mw_b1 pa k0 ms).2.1 (mw_b1 pa k0 ms).2.2 (ms.2.2.1 - 1) (mo_nx cov pq mn k0) (ms.1.2.2.2.1 (mw_at cov (mo_nx cov pq mn k0) rn ms)) (ms.1.2.2.2.2.1 (mw_at cov (mo_nx cov pq mn k0) rn ms)) (ms.1.2.2.2.2.2.1 (mw_at cov (mo_nx cov pq mn k0) rn ms))) (mo_nx cov pq mn k0) ms
  else if 0 < rn - 1 ∧ mo_hop (mw_rs cov (mo_nx cov pq mn k0) ms) cov mn (rn - 1) = false then mw_push mn cov (mw_b1 pa k0 ms) (mo_nx cov pq mn k0) rn ms
  else mw_on (mw_b1 pa k0 ms) (mo_nx cov pq mn k0) ms
section WK
variable {mn : Nat} {cov pa : Nat → Int32} {k0 pq rn : Nat} {ms : MS}
theorem mo_work_p (h : mo_nx cov pq mn k0 = mn) : mo_work mn cov pa k0 pq rn ms = mw_pop (mw_b1 pa k0 ms) (mo_nx cov pq mn k0) ms := if_pos h
theorem mo_work_0 (h : ¬ mo_nx cov pq mn k0 = mn) (h0 : mw_rs cov (mo_nx cov pq mn k0) ms = 0) : mo_work mn cov pa k0 pq rn ms = mw_on (mo_bet pa (mw_b1 pa k0 ms).1 (mw_b1 pa k0 ms).2.1 (mw_b1 pa k0 ms).2.2 (ms.2.2.1 - 1) (mo_nx cov pq mn k0) 0 0 0) (mo_nx cov pq mn k0) ms := (if_neg h).trans (if_pos h0)
theorem mo_work_m (h : ¬ mo_nx cov pq mn k0 = mn) (h0 : ¬ mw_rs cov (mo_nx cov pq mn k0) ms = 0) (h1 : ¬ ms.1.1 (mw_at cov (mo_nx cov pq mn k0) rn ms) = 0) : mo_work mn cov pa k0 pq rn ms = mw_on (mo_bet pa (mw_b1 pa k0 ms).1 (mw_b1 pa k0 ms).2.1 (mw_b1 pa k0 ms).2.2 (ms.2.2.1 - 1) (mo_nx cov pq mn k0) (ms.1.2.2.2.1 (mw_at cov (mo_nx cov pq mn k0) rn ms)) (ms.1.2.2.2.2.1 (mw_at cov (mo_nx cov pq mn k0) rn ms)) (ms.1.2.2.2.2.2.1 (mw_at cov (mo_nx cov pq mn k0) rn ms))) (mo_nx cov pq mn k0) ms := (if_neg h).trans ((if_neg h0).trans (if_pos h1))
theorem mo_work_w (h : ¬ mo_nx cov pq mn k0 = mn) (h0 : ¬ mw_rs cov (mo_nx cov pq mn k0) ms = 0) (h1 : ms.1.1 (mw_at cov (mo_nx cov pq mn k0) rn ms) = 0) (h2 : 0 < rn - 1) (h3 : mo_hop (mw_rs cov (mo_nx cov pq mn k0) ms) cov mn (rn - 1) = false) : mo_work mn cov pa k0 pq rn ms = mw_push mn cov (mw_b1 pa k0 ms) (mo_nx cov pq mn k0) rn ms := (if_neg h).trans ((if_neg h0).trans ((if_neg (fun q => q h1)).trans (if_pos ⟨h2, h3⟩)))
theorem mo_work_n (h : ¬ mo_nx cov pq mn k0 = mn) (h0 : ¬ mw_rs cov (mo_nx cov pq mn k0) ms = 0) (h1 : ms.1.1 (mw_at cov (mo_nx cov pq mn k0) rn ms) = 0) (h2 : rn - 1 = 0) : mo_work mn cov pa k0 pq rn ms = mw_on (mw_b1 pa k0 ms) (mo_nx cov pq mn k0) ms := (if_neg h).trans ((if_neg h0).trans ((if_neg (fun q => q h1)).trans (if_neg (fun q => by omega))))
theorem mo_work_h (h : ¬ mo_nx cov pq mn k0 = mn) (h0 : ¬ mw_rs cov (mo_nx cov pq mn k0) ms = 0) (h1 : ms.1.1 (mw_at cov (mo_nx cov pq mn k0) rn ms) = 0) (h3 : mo_hop (mw_rs cov (mo_nx cov pq mn k0) ms) cov mn (rn - 1) = true) : mo_work mn cov pa k0 pq rn ms = mw_on (mw_b1 pa k0 ms) (mo_nx cov pq mn k0) ms := (if_neg h).trans ((if_neg h0).trans ((if_neg (fun q => q h1)).trans (if_neg (fun q => by rw [h3] at q; cases q.2))))
end WK
