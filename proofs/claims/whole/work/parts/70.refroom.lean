/-! the loop over the rooms -/
theorem room_t {mn : Nat} {cov : Nat → Int32} {pn : Nat → Nat} {lf : Int32} {ms : MS} (hM : Memo mn cov pn ms.1) (hz : ms.2.2.2.2.1 = -1) (h0 : ¬ lf = 0) : RoomOK mn cov pn lf 1 ms :=
  ⟨hM, Or.inl ⟨by rw [hz]; decide, tight_1 h0, h0⟩⟩
theorem room_f {mn : Nat} {cov : Nat → Int32} {pn : Nat → Nat} {lf : Int32} {ms : MS} (hM : Memo mn cov pn ms.1) (hz : ms.2.2.2.2.1 = 0) (hlo : ms.2.2.2.2.2.1 = 0) (hhi : ms.2.2.2.2.2.2 = 0) (h0 : lf = 0) : RoomOK mn cov pn lf 1 ms := by
  refine ⟨hM, Or.inr ⟨by rw [hz]; decide, ?_⟩⟩
  rw [hlo, hhi, h0]
  exact sol_of (rn := 0) (z := 0) (fun T _ => Nat.zero_le _) (bst_nil (fun T _ => Nat.zero_le _)) (by decide)
theorem nlt_of {x : Int32} (h : 0 ≤ x) : ¬ x < 0 := Int32.not_lt.mpr h
theorem lt_of {x : Int32} (h : ¬ 0 ≤ x) : x < 0 := Int32.not_le.mp h
theorem sol_get {mn rv : Nat} {cov : Nat → Int32} {pn : Nat → Nat} {lf : Int32} {ms : MS} (h : RoomOK mn cov pn lf rv ms) (hc : 0 ≤ ms.2.2.2.2.1) : Sol mn cov pn lf ms.2.2.2.2.2.1 ms.2.2.2.2.2.2 :=
  h.2.elim (fun q => absurd q.1 (nlt_of hc)) (fun q => q.2)
theorem room_go {mn rv : Nat} {cov : Nat → Int32} {pn : Nat → Nat} {lf : Int32} {ms : MS} (h : RoomOK mn cov pn lf rv ms) (hc : ¬ 0 ≤ ms.2.2.2.2.1) : Tight mn cov lf rv ∧ ¬ lf = 0 :=
  h.2.elim (fun q => q.2) (fun q => absurd (lt_of hc) q.1)
theorem room_go0 {mn rv : Nat} {cov : Nat → Int32} {pn : Nat → Nat} {lf : Int32} {ms : MS} (_ : RoomOK mn cov pn lf rv ms) (hc : ¬ 0 ≤ ms.2.2.2.2.1) : ms.2.2.2.2.1 < 0 := lt_of hc
theorem room_hop {mn rv : Nat} {cov : Nat → Int32} {pn : Nat → Nat} {lf : Int32} {ms : MS} (hM : Memo mn cov pn ms.1) (ht : Tight mn cov lf rv) (h0 : ¬ lf = 0) (hh : mo_hop lf cov mn rv = true) (hc : ms.2.2.2.2.1 < 0) : RoomOK mn cov pn lf (rv + 1) ms := by
  refine ⟨hM, Or.inl ⟨hc, tight_next ht ?_, h0⟩⟩
  rcases bst_hop (pn := pn) hh 0 0 with ⟨-, h⟩ | ⟨-, -, h, -⟩
  · exact h
  · exfalso
    have e : (-1 : Int32) = nI (sw pn (mo_gone 0 0) mn) := h
    rw [sw_empty (fun k => gone_0 k)] at e
    exact absurd e (by decide)
theorem top_0 {mn rv p : Nat} {cov pa : Nat → Int32} {pn : Nat → Nat} {lf : Int32} {mt : MT} {wl wp wn wr bz : Nat → Int32} {bl bh : Nat → Int64} {cz : Int32} {clo chi : Int64} (hM : Memo mn cov pn mt) (ht : Tight mn cov lf rv) (h1 : 1 ≤ rv) (h2 : rv ≤ 32) (q1 : p < 32) (q2 : mo_po lf cov mn = nI p) (q3 : ib lf p = true) :
    TopOK mn cov pa pn 0 lf rv p 0 (mt, (upd wl 0 lf, upd wp 0 (mo_po lf cov mn), upd wn 0 0, upd wr 0 (nI rv), upd bz 0 (-1), bl, bh), 0 + 1, 0, cz, clo, chi) := by
  refine ⟨rfl, show upd wl 0 lf 0 = lf from pk_us, show upd wp 0 (mo_po lf cov mn) 0 = nI p from pk_us.trans q2, show upd wn 0 0 0 = nI 0 from pk_us, show upd wr 0 (nI rv) 0 = nI rv from pk_us, q1, q3, Nat.zero_le _, fun h => absurd rfl h, h1, by omega, hM, ht, ?_⟩
  rw [mw_b1_t rfl]
  refine Or.inl ⟨show upd bz 0 (-1) 0 = -1 from pk_us, ?_⟩
  rintro T ⟨-, j, hj, -⟩
  exact absurd hj (Nat.not_lt_zero _)
