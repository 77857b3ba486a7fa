/-! the answers: covers, needed, thinned -/
theorem covf_bits (pla : Nat → Int64) (sm : Int64) (q : Nat) : ∀ m, zb (fo (mc_covf pla sm) m 0) q = exn m (fun i => zb sm i && zb (pla i) q) := by
  intro m
  induction m with
  | zero => show zb 0 q = false; simp [zb]
  | succ m ih =>
    rw [fo_s, exn_s, ← ih]
    unfold mc_covf
    cases h : zb sm m with
    | true => rw [if_pos rfl, zb_or]; rfl
    | false => rw [if_neg (by decide)]; simp
theorem cbf_bits (num cov : Nat → Int32) (fm : Int32) (lo hi : Int64) (q : Nat) : ∀ m, ib (fo (mo_cbf num cov fm lo hi) m 0) q = exn m (fun i => (!decide (num i < fm) && !mo_gone lo hi i) && ib (cov i) q) := by
  intro m
  induction m with
  | zero => exact ib_0 q
  | succ m ih =>
    rw [fo_s, exn_s, ← ih]
    unfold mo_cbf
    by_cases h : num m < fm
    · rw [if_pos h, decide_eq_true h]; simp
    · rw [if_neg h, decide_eq_false h]
      cases h2 : mo_gone lo hi m with
      | true => rw [if_pos rfl]; simp
      | false => rw [if_neg (by decide), ib_or]; rfl
theorem exn_congr {P Q : Nat → Bool} : ∀ m, (∀ i, i < m → P i = Q i) → exn m P = exn m Q := by
  intro m
  induction m with
  | zero => intro _; rfl
  | succ m ih => intro h; rw [exn_s, exn_s, ih (fun i hi => h i (by omega)), h m (by omega)]
/-- is K a cover -/
def IsC (n mo : Nat) (on an : Nat → Nat) (K : Nat → Bool) : Prop := ∀ q, q < 32 → exn (hv_C n mo on an) (fun i => K i && hv_b n mo on an i q) = hv_d on q
theorem cov_class {n mo : Nat} {on an : Nat → Nat} {t : TB} (hv : CVw n mo on an t) {sm : Int64} {K : Nat → Bool} (hk : ∀ i, i < hv_C n mo on an → zb sm i = K i) : fo (mc_covf t.2.2.2.2.2.1 sm) t.1 0 = t.2.2.2.2.2.2.1 ↔ IsC n mo on an K := by
  obtain ⟨v1, v2, v3, v4, -⟩ := hv
  rw [v1]
  constructor
  · intro e q hq
    rw [← v3 q hq, ← e, covf_bits]
    exact exn_congr _ (fun i hi => by rw [hk i hi, (v2 i hi).2.2.2.2.1 q hq])
  · intro h
    apply zb_ext
    intro q _
    rw [covf_bits]
    rcases Nat.lt_or_ge q 32 with z | z
    · rw [v3 q z, ← h q z]
      exact exn_congr _ (fun i hi => by rw [hk i hi, (v2 i hi).2.2.2.2.1 q z])
    · rw [v4 q z]
      apply exn_false
      intro i hi
      rw [(v2 i hi).2.2.2.2.2 q z, Bool.and_false]
theorem cov_ref {n mo : Nat} {on an : Nat → Nat} {num cov : Nat → Int32} {one : Nat → Int32} {fm : Int32} {lo hi : Int64} (hb : ∀ i, i < hv_C n mo on an → ∀ q, q < 32 → ib (cov i) q = hv_b n mo on an i q) (hl : ∀ q, q < 32 → ib (mo_left one) q = hv_d on q) {K : Nat → Bool} (hk : ∀ i, i < hv_C n mo on an → (!decide (num i < fm) && !mo_gone lo hi i) = K i) : mo_cb num cov (hv_C n mo on an) fm lo hi = mo_left one ↔ IsC n mo on an K := by
  unfold mo_cb
  constructor
  · intro e q hq
    rw [← hl q hq, ← e, cbf_bits]
    exact exn_congr _ (fun i hi => by rw [hk i hi, hb i hi q hq])
  · intro h
    apply ib_ext
    intro q hq
    rw [cbf_bits, hl q hq, ← h q hq]
    exact exn_congr _ (fun i hi => by rw [hk i hi, hb i hi q hq])
theorem lonf_bits (pla : Nat → Int64) (q : Nat) : ∀ m, zb (fo (mc_lonf pla) m (0, 0)).1 q = decide (1 ≤ cnt (fun j => zb (pla j) q) m) ∧ zb (fo (mc_lonf pla) m (0, 0)).2 q = decide (2 ≤ cnt (fun j => zb (pla j) q) m) := by
  intro m
  induction m with
  | zero => exact ⟨by show zb 0 q = _; simp [zb, cnt, sw], by show zb 0 q = _; simp [zb, cnt, sw]⟩
  | succ m ih =>
    obtain ⟨h1, h2⟩ := ih
    rw [fo_s, cnt_s]
    generalize fo (mc_lonf pla) m (0, 0) = a at h1 h2 ⊢
    show zb (a.1 ||| pla m) q = _ ∧ zb (a.2 ||| (a.1 &&& pla m)) q = _
    rw [zb_or, zb_or, zb_and, h1, h2]
    generalize cnt (fun j => zb (pla j) q) m = k
    cases zb (pla m) q with
    | true => constructor <;> (rw [Bool.eq_iff_iff]; simp; try omega)
    | false => constructor <;> simp
theorem nef_bits (cov : Nat → Int32) (k q : Nat) : ∀ m, ib (fo (mo_nef cov k) m 0) q = decide (1 ≤ cnt (su (fun j => ib (cov j) q) k false) m) := by
  intro m
  induction m with
  | zero => show ib 0 q = _; rw [ib_0]; simp [cnt, sw]
  | succ m ih =>
    rw [fo_s, cnt_s]
    unfold mo_nef
    by_cases h : m = k
    · rw [if_pos h]
      have : su (fun j => ib (cov j) q) k false m = false := by rw [h]; exact su_s _ _ _
      rw [this]
      exact ih
    · rw [if_neg h, ib_or]
      have : su (fun j => ib (cov j) q) k false m = ib (cov m) q := if_neg h
      rw [this]
      have ih2 : ib (fo (fun j a => if j = k then a else a ||| cov j) m 0) q = _ := ih
      rw [ih2]
      generalize cnt (su (fun j => ib (cov j) q) k false) m = z
      cases ib (cov m) q with
      | true => simp
      | false => simp
theorem needed_same {n mo : Nat} {on an : Nat → Nat} {t : TB} {u : RT} (hv : CVw n mo on an t) (hr : RVw n mo on an u) {k : Nat} (hk : k < hv_C n mo on an) : (!decide (t.2.2.2.2.2.1 k &&& t.2.2.2.2.2.2.2.1 = 0)) = (!decide (u.2.2.2.2.2.2.1 k &&& ((fo (mo_nef u.2.2.2.2.2.2.1 k) u.2.1 0) ^^^ (-1)) = 0)) := by
  obtain ⟨v1, v2, -, -, v5⟩ := hv
  obtain ⟨r1, r2⟩ := hr
  have key : ∀ q, q < 32 → zb (t.2.2.2.2.2.1 k &&& t.2.2.2.2.2.2.2.1) q = ib (u.2.2.2.2.2.2.1 k &&& ((fo (mo_nef u.2.2.2.2.2.2.1 k) u.2.1 0) ^^^ (-1))) q := by
    intro q hq
    have hc1 : cnt (fun j => zb (t.2.2.2.2.2.1 j) q) (hv_C n mo on an) = cnt (fun j => hv_b n mo on an j q) (hv_C n mo on an) := cnt_eq _ (fun j hj => (v2 j hj).2.2.2.2.1 q hq)
    have hc2 : cnt (su (fun j => ib (u.2.2.2.2.2.2.1 j) q) k false) (hv_C n mo on an) = cnt (su (fun j => hv_b n mo on an j q) k false) (hv_C n mo on an) := cnt_eq _ (fun j hj => by
      unfold su
      split
      · rfl
      · exact (r2 j hj).2.2.2.2 q hq)
    rw [v5, v1, r1]
    unfold mc_lon
    rw [zb_and, zb_and, zb_not _ (by omega), (lonf_bits _ q _).1, (lonf_bits _ q _).2, ib_and, ib_not _ hq, nef_bits, hc1, hc2, (v2 k hk).2.2.2.2.1 q hq, (r2 k hk).2.2.2.2 q hq]
    have hs := cnt_su (S := fun j => hv_b n mo on an j q) (i := k) (b := false) hk
    cases hb : hv_b n mo on an k q with
    | false => rfl
    | true =>
      have hs : cnt (su (fun j => hv_b n mo on an j q) k false) (hv_C n mo on an) + (if hv_b n mo on an k q = true then 1 else 0) = cnt (fun j => hv_b n mo on an j q) (hv_C n mo on an) + (if false = true then 1 else 0) := hs
      rw [hb] at hs
      generalize cnt (su (fun j => hv_b n mo on an j q) k false) (hv_C n mo on an) = x at hs ⊢
      generalize cnt (fun j => hv_b n mo on an j q) (hv_C n mo on an) = y at hs ⊢
      have hs : x + 1 = y + 0 := hs
      rw [Bool.eq_iff_iff]
      simp
      omega
  congr 2
  apply propext
  constructor
  · intro e
    apply ib_ext
    intro q hq
    rw [← key q hq, e, ib_0]
    simp [zb]
  · intro e
    apply zb_ext
    intro q _
    rcases Nat.lt_or_ge q 32 with z | z
    · rw [key q z, e, ib_0]; simp [zb]
    · rw [zb_and, (v2 k hk).2.2.2.2.2 q z]; simp [zb]
