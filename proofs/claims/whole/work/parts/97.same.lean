/-! the least cover: both search for the same set -/
noncomputable def hv_s (n mo : Nat) (on an : Nat → Nat) (i : Nat) : Nat := szN (hv_P n mo on an i)
def HCov (n mo : Nat) (on an : Nat → Nat) (S : Nat → Bool) : Prop := ∀ q, q < 32 → hv_d on q = true → ∃ i, i < hv_C n mo on an ∧ S i = true ∧ hv_b n mo on an i q = true
def IsL (n mo : Nat) (on an : Nat → Nat) (S : Nat → Bool) : Prop := (∀ i, S i = true → i < hv_C n mo on an) ∧ HCov n mo on an S ∧ ∀ T, (∀ i, T i = true → i < hv_C n mo on an) → HCov n mo on an T → ¬ Bet (sw (fun i => 1000 + hv_s n mo on an i) T (hv_C n mo on an)) T (sw (fun i => 1000 + hv_s n mo on an i) S (hv_C n mo on an)) S
theorem isl_one {n mo : Nat} {on an : Nat → Nat} {S S' : Nat → Bool} (h : IsL n mo on an S) (h' : IsL n mo on an S') : S = S' := by
  have h1 := h.2.2 S' h'.1 h'.2.1
  have h2 := h'.2.2 S h.1 h.2.1
  have hw : sw (fun i => 1000 + hv_s n mo on an i) S (hv_C n mo on an) = sw (fun i => 1000 + hv_s n mo on an i) S' (hv_C n mo on an) := by
    rcases Nat.lt_trichotomy (sw (fun i => 1000 + hv_s n mo on an i) S (hv_C n mo on an)) (sw (fun i => 1000 + hv_s n mo on an i) S' (hv_C n mo on an)) with q | q | q
    · exact absurd (Or.inl q) h2
    · exact q
    · exact absurd (Or.inl q) h1
  exact funext (lex_tot (fun q => h2 (Or.inr ⟨hw, q⟩)) (fun q => h1 (Or.inr ⟨hw.symm, q⟩)))
theorem sw_1000 (T : Nat → Bool) : ∀ n, sw (fun _ => 1000) T n = 1000 * cnt T n := by
  intro n
  induction n with
  | zero => rfl
  | succ n ih =>
    rw [cnt_s]
    show sw (fun _ => 1000) T n + (if T n = true then 1000 else 0) = _
    rw [ih]
    split <;> omega
theorem sw_w {f : Nat → Nat} (T : Nat → Bool) (n : Nat) : sw (fun i => 1000 + f i) T n = 1000 * cnt T n + sw f T n := by
  rw [sw_addf (fun _ => 1000) f T n, sw_1000]
theorem isl_class {n mo : Nat} {on an : Nat → Nat} {t : TB} (hv : CVw n mo on an t) {B : Int64} (h : LeastOf t.1 t.2.2.2.2.2.1 (fun i => 1000 + hv_s n mo on an i) t.2.2.2.2.2.2.1 B) : IsL n mo on an (zb B) := by
  obtain ⟨v1, v2, v3, v4, -⟩ := hv
  have hcov : ∀ S, Cov t.1 t.2.2.2.2.2.1 t.2.2.2.2.2.2.1 S ↔ HCov n mo on an S := by
    intro S
    constructor
    · intro k q hq hd
      obtain ⟨i, i1, i2, i3⟩ := k q ((v3 q hq).trans hd)
      rw [v1] at i1
      exact ⟨i, i1, i2, by rw [← (v2 i i1).2.2.2.2.1 q hq]; exact i3⟩
    · intro k q hd
      have hq : q < 32 := by
        rcases Nat.lt_or_ge q 32 with z | z
        · exact z
        · rw [v4 q z] at hd; cases hd
      obtain ⟨i, i1, i2, i3⟩ := k q hq (by rw [← v3 q hq]; exact hd)
      exact ⟨i, by rw [v1]; exact i1, i2, by rw [(v2 i i1).2.2.2.2.1 q hq]; exact i3⟩
  obtain ⟨h1, h2, h3⟩ := h
  rw [v1] at h1
  refine ⟨h1, (hcov _).mp h2, fun T t1 t2 => ?_⟩
  have := h3 T (by rw [v1]; exact t1) ((hcov T).mpr t2)
  rw [v1] at this
  exact this
theorem isl_ref {n mo : Nat} {on an : Nat → Nat} {cov : Nat → Int32} {lf : Int32} (hn : n ≤ 4) (hb : ∀ i, i < hv_C n mo on an → ∀ q, q < 32 → ib (cov i) q = hv_b n mo on an i q) (hl : ∀ q, q < 32 → ib lf q = hv_d on q) {lo hi : Int64} (h : Sol (hv_C n mo on an) cov (hv_s n mo on an) lf lo hi) : IsL n mo on an (mo_gone lo hi) := by
  have hcov : ∀ S, Cv (hv_C n mo on an) cov lf S ↔ ((∀ i, S i = true → i < hv_C n mo on an) ∧ HCov n mo on an S) := by
    intro S
    constructor
    · rintro ⟨k1, k2⟩
      refine ⟨k1, fun q hq hd => ?_⟩
      obtain ⟨i, i1, i2, i3⟩ := k2 q hq ((hl q hq).trans hd)
      exact ⟨i, i1, i2, by rw [← hb i i1 q hq]; exact i3⟩
    · rintro ⟨k1, k2⟩
      refine ⟨k1, fun q hq hd => ?_⟩
      obtain ⟨i, i1, i2, i3⟩ := k2 q hq (by rw [← hl q hq]; exact hd)
      exact ⟨i, i1, i2, by rw [hb i i1 q hq]; exact i3⟩
  have h81 := tp_81 hn
  have h4 : ∀ i, i < hv_C n mo on an → hv_s n mo on an i ≤ 4 := fun i hi => szN_4 (Nat.lt_of_lt_of_le (hv_P_ok hi).1 h81)
  obtain ⟨rn, g1, -, ⟨g2, g3⟩, g4⟩ := h
  obtain ⟨k1, k2⟩ := (hcov _).mp g2
  refine ⟨k1, k2, fun T t1 t2 hbet => ?_⟩
  have hT : Cv (hv_C n mo on an) cov lf T := (hcov T).mpr ⟨t1, t2⟩
  have hge := g1 T hT
  have hc := hv_C54 (n := n) (mo := mo) (on := on) (an := an) hn
  have hs := sw_324 (mn := hv_C n mo on an) (by omega) h4 (mo_gone lo hi)
  rw [sw_w, sw_w, g3] at hbet
  have key : cnt T (hv_C n mo on an) = rn → ¬ Bet (sw (hv_s n mo on an) T (hv_C n mo on an)) T (sw (hv_s n mo on an) (mo_gone lo hi) (hv_C n mo on an)) (mo_gone lo hi) := fun e => g4 T ⟨hT, e⟩
  rcases hbet with q | ⟨q, lx⟩
  · have e : cnt T (hv_C n mo on an) = rn := by omega
    exact key e (Or.inl (by omega))
  · have e : cnt T (hv_C n mo on an) = rn := by omega
    exact key e (Or.inr ⟨by omega, lx⟩)
/-- the chosen candidates, listed -/
def LsV (n mo : Nat) (on an : Nat → Nat) (S : Nat → Bool) (k : Nat) (pic : Nat → Int32) : Prop := k = cnt S (hv_C n mo on an) ∧ ∀ i, i < hv_C n mo on an → S i = true → pic (cnt S i) = nI i
theorem lbf_ok {B : Int64} {siz : Nat → Int32} {sz : Nat → Nat} (pic : Nat → Int32) : ∀ m, (∀ i, i < m → siz i = nI (sz i)) → (fo (mc_lbf B siz) m (pic, 0, 0)).2.1 = cnt (zb B) m ∧ (fo (mc_lbf B siz) m (pic, 0, 0)).2.2 = nI (sw sz (zb B) m) ∧ ∀ i, i < m → zb B i = true → (fo (mc_lbf B siz) m (pic, 0, 0)).1 (cnt (zb B) i) = nI i := by
  intro m
  induction m with
  | zero => intro _; exact ⟨rfl, rfl, fun i h => absurd h (Nat.not_lt_zero _)⟩
  | succ m ih =>
    intro hs
    obtain ⟨h1, h2, h3⟩ := ih (fun i hi => hs i (by omega))
    rw [fo_s]
    generalize fo (mc_lbf B siz) m (pic, 0, 0) = a at h1 h2 h3 ⊢
    have hcs : sw sz (zb B) (m + 1) = sw sz (zb B) m + (if zb B m = true then sz m else 0) := rfl
    rw [cnt_s, hcs]
    cases hb : zb B m with
    | true =>
      rw [show mc_lbf B siz m a = (upd a.1 a.2.1 (nI m), a.2.1 + 1, a.2.2 + siz m) from if_pos hb, if_pos rfl, if_pos rfl]
      refine ⟨by show a.2.1 + 1 = _; rw [h1], by show a.2.2 + siz m = _; rw [h2, hs m (by omega), nI_add], fun i hi hbi => ?_⟩
      show upd a.1 a.2.1 (nI m) _ = _
      rw [h1]
      by_cases e : i = m
      · subst e; exact pk_us
      · rw [pk_un (fun q => e (cnt_inj hbi hb q))]
        exact h3 i (by omega) hbi
    | false =>
      rw [show mc_lbf B siz m a = a from if_neg (by rw [hb]; decide), if_neg (by decide), if_neg (by decide)]
      refine ⟨h1, h2, fun i hi hbi => h3 i ?_ hbi⟩
      have : i ≠ m := fun e => by subst e; rw [hb] at hbi; cases hbi
      omega
theorem chf_ok {lo hi : Int64} (chc : Nat → Int32) : ∀ m, (fo (mo_chf lo hi) m (chc, 0)).2 = cnt (mo_gone lo hi) m ∧ ∀ i, i < m → mo_gone lo hi i = true → (fo (mo_chf lo hi) m (chc, 0)).1 (cnt (mo_gone lo hi) i) = nI i := by
  intro m
  induction m with
  | zero => exact ⟨rfl, fun i h => absurd h (Nat.not_lt_zero _)⟩
  | succ m ih =>
    obtain ⟨h1, h3⟩ := ih
    rw [fo_s]
    generalize fo (mo_chf lo hi) m (chc, 0) = a at h1 h3 ⊢
    rw [cnt_s]
    cases hb : mo_gone lo hi m with
    | true =>
      rw [mo_chf_t hb, if_pos rfl]
      refine ⟨by show a.2 + 1 = _; rw [h1], fun i hi2 hbi => ?_⟩
      show upd a.1 a.2 (nI m) _ = _
      rw [h1]
      by_cases e : i = m
      · subst e; exact pk_us
      · rw [pk_un (fun q => e (cnt_inj hbi hb q))]
        exact h3 i (by omega) hbi
    | false =>
      rw [mo_chf_f hb, if_neg (by decide)]
      refine ⟨h1, fun i hi2 hbi => h3 i ?_ hbi⟩
      have : i ≠ m := fun e => by subst e; rw [hb] at hbi; cases hbi
      omega
/-- what the class's search leaves -/
def SVw (n mo : Nat) (on an : Nat → Nat) (b : SB) : Prop := ∃ S, IsL n mo on an S ∧ LsV n mo on an S b.2.1 b.1 ∧ b.2.2.1 = nI (sw (hv_s n mo on an) S (hv_C n mo on an)) ∧ ∀ i, zb b.2.2.2.2.2.2 i = S i
/-- what the reference's search leaves -/
def SRw (n mo : Nat) (on an : Nat → Nat) (u : RT) : Prop := ∃ S, IsL n mo on an S ∧ LsV n mo on an S u.2.2.2.2.2.2.2.2.1 u.2.2.2.2.2.2.2.1
theorem least_view {n mo : Nat} {on an : Nat → Nat} (h : HvOK n mo on an) {t : TB} (hv : CVw n mo on an t) (b : SB) : SVw n mo on an (m_least t b) := by
  have hv0 := hv
  obtain ⟨v1, v2, v3, v4, -⟩ := hv
  have hn : n ≤ 4 := h.1.2
  have h81 := tp_81 hn
  have h4 : ∀ i, i < hv_C n mo on an → hv_s n mo on an i ≤ 4 := fun i hi => szN_4 (Nat.lt_of_lt_of_le (hv_P_ok hi).1 h81)
  have hc := hv_C54 (n := n) (mo := mo) (on := on) (an := an) hn
  obtain ⟨B, e, hB⟩ := ext_least m_pop (c := t.1) (pl := t.2.2.2.2.2.1) (siz := t.2.2.2.1) (wei := b.2.2.2.1) (sz := hv_s n mo on an) (ser := b.2.2.2.2.1) (O := t.2.2.2.2.2.2.1) (by omega)
    (fun i hi => by rw [v1] at hi; exact ⟨(v2 i hi).2.2.1, h4 i hi⟩) (fun q hq => by
      rcases Nat.lt_or_ge q 32 with z | z
      · exact z
      · rw [v4 q z] at hq; cases hq) (fun q hq => by
      have hq32 : q < 32 := by
        rcases Nat.lt_or_ge q 32 with z | z
        · exact z
        · rw [v4 q z] at hq; cases hq
      obtain ⟨i, i1, i2⟩ := hv_cov h hq32 (by rw [← v3 q hq32]; exact hq)
      exact ⟨i, by rw [v1]; exact i1, decide_eq_true (by rw [v1]; exact i1), by rw [(v2 i i1).2.2.2.2.1 q hq32]; exact i2⟩)
  have e2 : (m_exl t b).2 = B := by
    show (m_ext m_pop t.1 _ _ _ 32 _ _ 0 0 (1000000, 0)).2 = B
    rw [e]
  have hl := lbf_ok (B := B) (siz := t.2.2.2.1) (sz := hv_s n mo on an) b.1 t.1 (fun i hi => by rw [v1] at hi; exact (v2 i hi).2.2.1)
  rw [v1] at hl
  refine ⟨zb B, isl_class hv0 hB, ⟨?_, ?_⟩, ?_, fun i => ?_⟩
  · show (fo (mc_lbf (m_exl t b).2 t.2.2.2.1) t.1 (b.1, 0, 0)).2.1 = _
    rw [e2, v1]; exact hl.1
  · intro i hi hbi
    show (fo (mc_lbf (m_exl t b).2 t.2.2.2.1) t.1 (b.1, 0, 0)).1 _ = _
    rw [e2, v1]; exact hl.2.2 i hi hbi
  · show (fo (mc_lbf (m_exl t b).2 t.2.2.2.1) t.1 (b.1, 0, 0)).2.2 = _
    rw [e2, v1]; exact hl.2.1
  · show zb (m_exl t b).2 i = _
    rw [e2]
theorem fok_of {n mo : Nat} {on an : Nat → Nat} {one any : Nat → Int32} (h : HvOK n mo on an) (h1 : ∀ o, o < 2 → one o = nI (on o)) (h2 : ∀ o, o < 2 → any o = nI (an o)) (r : RT) : FOK n mo one any (hv_s n mo on an) r := by
  obtain ⟨f1, f2⟩ := find_view h h1 h2 r
  have hn : n ≤ 4 := h.1.2
  have h81 := tp_81 hn
  have h16 : 2 ^ 2 ^ n ≤ 65536 := pp_16 (by omega)
  have ho1 : ∀ o, o < 2 → one o = nI (on o) ∧ on o < 65536 := fun o q => ⟨h1 o q, Nat.lt_of_lt_of_le (h.2.2 o q).1 h16⟩
  refine ⟨fun j hj => ?_, fun k hk => of_decide_eq_true hk, fun q hq hd => ?_⟩
  · rw [f1] at hj
    exact ⟨(f2 j hj).2.2.1, szN_4 (Nat.lt_of_lt_of_le (hv_P_ok hj).1 h81)⟩
  · rw [left_bits ho1 hq] at hd
    obtain ⟨i, i1, i2⟩ := hv_cov h hq hd
    exact ⟨i, by rw [f1]; exact i1, decide_eq_true (by rw [f1]; exact i1), by rw [(f2 i i1).2.2.2.2 q hq]; exact i2⟩
/-- behind find the reference's table and choice are those of the house -/
theorem find_ok {n mo : Nat} {on an : Nat → Nat} {one any : Nat → Int32} (h : HvOK n mo on an) (h1 : ∀ o, o < 2 → one o = nI (on o)) (h2 : ∀ o, o < 2 → any o = nI (an o)) {r u : RT} (hr : r.1 = 0 ∨ (RVw n mo on an r ∧ SRw n mo on an r)) (hf : FindOK n mo one any (hv_s n mo on an) r u) : ¬ u.1 = 0 ∧ RVw n mo on an u ∧ SRw n mo on an u := by
  have hn : n ≤ 4 := h.1.2
  have h16 : 2 ^ 2 ^ n ≤ 65536 := pp_16 (by omega)
  have ho1 : ∀ o, o < 2 → one o = nI (on o) ∧ on o < 65536 := fun o q => ⟨h1 o q, Nat.lt_of_lt_of_le (h.2.2 o q).1 h16⟩
  rcases hf with ⟨a, rfl⟩ | ⟨a, b, c, d⟩
  · rcases hr with z | z
    · exact absurd z a
    · exact ⟨a, z⟩
  · obtain ⟨f1, f2⟩ := find_view h h1 h2 r
    rw [← c] at f1 f2
    have hR : RVw n mo on an u := ⟨f1, f2⟩
    refine ⟨by rw [b]; decide, hR, ?_⟩
    obtain ⟨lo, hi, s1, s2, s3⟩ := d
    rw [show u.2.1 = hv_C n mo on an from f1] at s1 s2 s3
    have hl := chf_ok (lo := lo) (hi := hi) r.2.2.2.2.2.2.2.1 (hv_C n mo on an)
    refine ⟨mo_gone lo hi, isl_ref hn (fun i hi q hq => (f2 i hi).2.2.2.2 q hq) (fun q hq => left_bits ho1 hq) s1, ?_, fun i hi2 hb => ?_⟩
    · exact s3.trans hl.1
    · show u.2.2.2.2.2.2.2.1 _ = _
      rw [show u.2.2.2.2.2.2.2.1 = _ from s2]
      exact hl.2 i hi2 hb
