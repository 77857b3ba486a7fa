/-! the answers: thinned, the choice, its parts, value -/
theorem zb_big (x : Int64) {i : Nat} (h : 64 ≤ i) : zb x i = false := by
  unfold zb
  exact BitVec.getLsbD_of_ge _ _ h
theorem thf_bits {num : Nat → Int32} {fm : Int32} : ∀ m, m ≤ 63 → ∀ i, zb (fo (mc_thf num fm) m 0) i = (decide (i < m) && !decide (num i < fm)) := by
  intro m
  induction m with
  | zero => intro _ i; show zb 0 i = _; rw [zb_0]; simp
  | succ m ih =>
    intro hm i
    rw [fo_s]
    unfold mc_thf
    have ih2 : ∀ i, zb (fo (fun i a => if num i < fm then a else a ||| zo i) m 0) i = _ := ih (by omega)
    by_cases h : num m < fm
    · rw [if_pos h, ih2]
      by_cases e : i = m
      · subst e; simp [h]
      · rw [show decide (i < m + 1) = decide (i < m) from by rw [decide_eq_decide]; omega]
    · rw [if_neg h, zb_or, ih2, zb_zo (by omega)]
      by_cases e : i = m
      · subst e; simp [h]
      · rw [show decide (i < m + 1) = decide (i < m) from (by rw [decide_eq_decide]; omega), decide_eq_false e]; simp
/-- class and reference, once k candidates are looked at -/
def ThI (n mo : Nat) (on an : Nat → Nat) (num : Nat → Int32) (fm : Int32) (k : Nat) (a : Int64) (b : Int64 × Int64 × Nat) : Prop :=
  (∀ i, zb a i = (decide (i < hv_C n mo on an) && (!decide (num i < fm) && !mo_gone b.1 b.2.1 i))) ∧ (∀ i, mo_gone b.1 b.2.1 i = true → hv_C n mo on an ≤ i + k) ∧ cnt (zb a) (hv_C n mo on an) = cnt (zb a) (hv_C n mo on an - k) + b.2.2
theorem thin_step {n mo : Nat} {on an : Nat → Nat} {t : TB} {cov num : Nat → Int32} {one : Nat → Int32} {fm : Int32} (hn : n ≤ 4) (hv : CVw n mo on an t) (hb : ∀ i, i < hv_C n mo on an → ∀ q, q < 32 → ib (cov i) q = hv_b n mo on an i q) (hl : ∀ q, q < 32 → ib (mo_left one) q = hv_d on q) {k : Nat} (hk : k < hv_C n mo on an) {a : Int64} {b : Int64 × Int64 × Nat} (h : ThI n mo on an num fm k a b) :
    ThI n mo on an num fm (k + 1) (mc_th2f t.2.2.2.2.2.1 t.2.2.2.2.2.2.1 (hv_C n mo on an) k a) (mo_thf num cov (hv_C n mo on an) fm (mo_left one) k b) := by
  have hc := hv_C54 (n := n) (mo := mo) (on := on) (an := an) hn
  obtain ⟨h1, h2, h3⟩ := h
  obtain ⟨i, hi⟩ : ∃ i, i = hv_C n mo on an - 1 - k := ⟨_, rfl⟩
  have hic : i < hv_C n mo on an := by omega
  have hcs : cnt (zb a) (hv_C n mo on an - k) = cnt (zb a) i + (if zb a i = true then 1 else 0) := by
    rw [show hv_C n mo on an - k = i + 1 by omega, cnt_s]
  have hz : ∀ j, zb (a &&& (zo i ^^^ (-1))) j = (zb a j && !decide (j = i)) := by
    intro j
    rw [zb_and]
    rcases Nat.lt_or_ge j 64 with z | z
    · rw [zb_not _ z, zb_zo (by omega)]
    · rw [zb_big a z]; rfl
  unfold mc_th2f mo_thf
  rw [← hi]
  by_cases hf : num i < fm
  · have hai : zb a i = false := by rw [h1, decide_eq_true hf]; simp
    have hsame : a &&& (zo i ^^^ (-1)) = a := by
      apply zb_ext
      intro j _
      rw [hz]
      by_cases e : j = i
      · subst e; rw [hai]; rfl
      · rw [decide_eq_false e]; simp
    rw [if_pos hsame, if_pos hf]
    rw [hai] at hcs
    refine ⟨h1, fun j hj => by have := h2 j hj; omega, ?_⟩
    rw [h3, hcs, show hv_C n mo on an - (k + 1) = i by omega]
    rfl
  · have hgi : mo_gone b.1 b.2.1 i = false := by
      cases hg : mo_gone b.1 b.2.1 i with
      | false => rfl
      | true => have := h2 i hg; omega
    have hai : zb a i = true := by rw [h1, decide_eq_true hic, decide_eq_false hf, hgi]; rfl
    have hne : ¬ a &&& (zo i ^^^ (-1)) = a := by
      intro e
      have := hz i
      rw [e, hai, decide_eq_true rfl] at this
      exact absurd this (by decide)
    have hga : ∀ j, mo_gone (mo_lo i b.1) (mo_hi i b.2.1) j = (mo_gone b.1 b.2.1 j || decide (j = i)) := gone_add (by omega) b.1 b.2.1
    have hK : ∀ j, j < hv_C n mo on an → zb (a &&& (zo i ^^^ (-1))) j = (!decide (num j < fm) && !mo_gone (mo_lo i b.1) (mo_hi i b.2.1) j) := by
      intro j hj
      rw [hz, h1, decide_eq_true hj, hga]
      cases decide (num j < fm) <;> cases mo_gone b.1 b.2.1 j <;> cases decide (j = i) <;> rfl
    have hcl := cov_class hv hK
    have hcr := cov_ref (num := num) (fm := fm) (lo := mo_lo i b.1) (hi := mo_hi i b.2.1) hb hl (fun j _ => rfl)
    rw [hv.1] at hcl
    have hiff : fo (mc_covf t.2.2.2.2.2.1 (a &&& (zo i ^^^ (-1)))) (hv_C n mo on an) 0 = t.2.2.2.2.2.2.1 ↔ mo_cb num cov (hv_C n mo on an) fm (mo_lo i b.1) (mo_hi i b.2.1) = mo_left one := hcl.trans hcr.symm
    rw [if_neg hne, if_neg hf]
    rw [hai] at hcs
    by_cases hcv : mo_cb num cov (hv_C n mo on an) fm (mo_lo i b.1) (mo_hi i b.2.1) = mo_left one
    · rw [if_pos hcv, if_pos (decide_eq_true (hiff.mpr hcv))]
      refine ⟨fun j => ?_, fun j hj => ?_, ?_⟩
      · show _ = (decide (j < hv_C n mo on an) && (!decide (num j < fm) && !mo_gone (mo_lo i b.1) (mo_hi i b.2.1) j))
        rw [hz, h1, hga]
        cases decide (j < hv_C n mo on an) <;> cases decide (num j < fm) <;> cases mo_gone b.1 b.2.1 j <;> cases decide (j = i) <;> rfl
      · have hj : mo_gone (mo_lo i b.1) (mo_hi i b.2.1) j = true := hj
        rw [hga, Bool.or_eq_true] at hj
        rcases hj with z | z
        · have := h2 j z; omega
        · have := of_decide_eq_true z; omega
      · have e1 : ∀ m, cnt (zb (a &&& (zo i ^^^ (-1)))) m = cnt (su (zb a) i false) m := fun m => cnt_eq m (fun j _ => by
          rw [hz]
          unfold su
          by_cases e : j = i
          · rw [if_pos e, decide_eq_true e]; simp
          · rw [if_neg e, decide_eq_false e]; simp)
        have e2 := cnt_su (S := zb a) (i := i) (b := false) hic
        rw [hai] at e2
        have e2 : cnt (su (zb a) i false) (hv_C n mo on an) + 1 = cnt (zb a) (hv_C n mo on an) + 0 := e2
        have e3 : cnt (su (zb a) i false) i = cnt (zb a) i := cnt_eq i (fun j hj => if_neg (by omega))
        have hcs : cnt (zb a) (hv_C n mo on an - k) = cnt (zb a) i + 1 := hcs
        show _ = _ + b.2.2
        rw [e1, e1, show hv_C n mo on an - (k + 1) = i by omega, e3]
        omega
    · rw [if_neg hcv, if_neg (by rw [decide_eq_false (fun z => hcv (hiff.mp z))]; decide)]
      refine ⟨h1, fun j hj => by have := h2 j hj; omega, ?_⟩
      have hcs : cnt (zb a) (hv_C n mo on an - k) = cnt (zb a) i + 1 := hcs
      show _ = _ + (b.2.2 + 1)
      rw [h3, hcs, show hv_C n mo on an - (k + 1) = i by omega]
      omega
theorem thin_same {n mo : Nat} {on an : Nat → Nat} {t : TB} {u : RT} {one : Nat → Int32} {fm : Int32} (hn : n ≤ 4) (hv : CVw n mo on an t) (hr : RVw n mo on an u) (hl : ∀ q, q < 32 → ib (mo_left one) q = hv_d on q) : mc_thin t.2.1 t.2.2.2.2.2.1 t.2.2.2.2.2.2.1 t.1 fm = mo_thin u.2.2.1 u.2.2.2.2.2.2.1 u.2.1 fm (mo_left one) := by
  have hc := hv_C54 (n := n) (mo := mo) (on := on) (an := an) hn
  have hv0 := hv
  obtain ⟨v1, v2, -⟩ := hv
  obtain ⟨r1, r2⟩ := hr
  have hb : ∀ i, i < hv_C n mo on an → ∀ q, q < 32 → ib (u.2.2.2.2.2.2.1 i) q = hv_b n mo on an i q := fun i hi => (r2 i hi).2.2.2.2
  have hg0 : ∀ i, mo_gone 0 0 i = false := fun i => by unfold mo_gone; split <;> exact zb_0 _
  have hbits := thf_bits (num := t.2.1) (fm := fm) (hv_C n mo on an) (by omega)
  have hnum : ∀ i, i < hv_C n mo on an → t.2.1 i = u.2.2.1 i := fun i hi => (v2 i hi).1.trans (r2 i hi).1.symm
  unfold mc_thin mo_thin
  have hcl := cov_class hv0 (sm := fo (mc_thf t.2.1 fm) t.1 0) (K := fun i => !decide (u.2.2.1 i < fm) && !mo_gone 0 0 i) (fun i hi => by rw [v1, hbits, decide_eq_true hi, hg0, hnum i hi]; simp)
  have hcr := cov_ref (num := u.2.2.1) (fm := fm) (lo := 0) (hi := 0) hb hl (fun j _ => rfl)
  rw [v1] at hcl ⊢
  rw [r1]
  have hiff := hcl.trans hcr.symm
  by_cases hcv : mo_cb u.2.2.1 u.2.2.2.2.2.2.1 (hv_C n mo on an) fm 0 0 = mo_left one
  · rw [if_pos hcv, if_pos (decide_eq_true (hiff.mpr hcv)), m_pop_ok]
    have hloop : ∀ k, k ≤ hv_C n mo on an → ThI n mo on an u.2.2.1 fm k (fo (mc_th2f t.2.2.2.2.2.1 t.2.2.2.2.2.2.1 (hv_C n mo on an)) k (fo (mc_thf t.2.1 fm) (hv_C n mo on an) 0)) (fo (mo_thf u.2.2.1 u.2.2.2.2.2.2.1 (hv_C n mo on an) fm (mo_left one)) k (0, 0, 0)) := by
      intro k
      induction k with
      | zero =>
        intro _
        refine ⟨fun i => ?_, fun i hi => ?_, rfl⟩
        · show zb (fo (mc_thf t.2.1 fm) (hv_C n mo on an) 0) i = (decide (i < hv_C n mo on an) && (!decide (u.2.2.1 i < fm) && !mo_gone 0 0 i))
          rw [hbits, hg0]
          by_cases hi : i < hv_C n mo on an
          · rw [hnum i hi]; simp
          · rw [decide_eq_false hi]; rfl
        · rw [show mo_gone (fo (mo_thf u.2.2.1 u.2.2.2.2.2.2.1 (hv_C n mo on an) fm (mo_left one)) 0 (0, 0, 0)).1 (fo (mo_thf u.2.2.1 u.2.2.2.2.2.2.1 (hv_C n mo on an) fm (mo_left one)) 0 (0, 0, 0)).2.1 i = mo_gone 0 0 i from rfl, hg0] at hi
          cases hi
      | succ k ih =>
        intro hk
        rw [fo_s, fo_s]
        exact thin_step hn hv0 hb hl (by omega) (ih (by omega))
    obtain ⟨q1, -, q3⟩ := hloop _ (Nat.le_refl _)
    have h64 : cnt (zb (fo (mc_th2f t.2.2.2.2.2.1 t.2.2.2.2.2.2.1 (hv_C n mo on an)) (hv_C n mo on an) (fo (mc_thf t.2.1 fm) (hv_C n mo on an) 0))) 64 = cnt (zb (fo (mc_th2f t.2.2.2.2.2.1 t.2.2.2.2.2.2.1 (hv_C n mo on an)) (hv_C n mo on an) (fo (mc_thf t.2.1 fm) (hv_C n mo on an) 0))) (hv_C n mo on an) := by
      have : ∀ d, cnt (zb (fo (mc_th2f t.2.2.2.2.2.1 t.2.2.2.2.2.2.1 (hv_C n mo on an)) (hv_C n mo on an) (fo (mc_thf t.2.1 fm) (hv_C n mo on an) 0))) (hv_C n mo on an + d) = cnt (zb (fo (mc_th2f t.2.2.2.2.2.1 t.2.2.2.2.2.2.1 (hv_C n mo on an)) (hv_C n mo on an) (fo (mc_thf t.2.1 fm) (hv_C n mo on an) 0))) (hv_C n mo on an) := by
        intro d
        induction d with
        | zero => rfl
        | succ d ih =>
          rw [show hv_C n mo on an + (d + 1) = (hv_C n mo on an + d) + 1 by omega, cnt_s, ih, q1, decide_eq_false (by omega)]
          rfl
      have h9 := this (64 - hv_C n mo on an)
      rw [show hv_C n mo on an + (64 - hv_C n mo on an) = 64 by omega] at h9
      exact h9
    rw [h64, q3, Nat.sub_self]
    show nI (0 + _) = _
    rw [Nat.zero_add]
  · rw [if_neg hcv, if_neg (by rw [decide_eq_false (fun z => hcv (hiff.mp z))]; decide)]
