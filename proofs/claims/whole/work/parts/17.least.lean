/-! the least cover -/
/-- B is the least set of candidates that serves O: lightest; of these the first -/
def LeastOf (c : Nat) (pl : Nat → Int64) (wn : Nat → Nat) (O B : Int64) : Prop := (∀ i, zb B i = true → i < c) ∧ Cov c pl O (zb B) ∧ ∀ S : Nat → Bool, (∀ i, S i = true → i < c) → Cov c pl O S → ¬ Bet (sw wn S c) S (sw wn (zb B) c) (zb B)
theorem least_one {c : Nat} {pl : Nat → Int64} {wn : Nat → Nat} {O B B' : Int64} (h : LeastOf c pl wn O B) (h' : LeastOf c pl wn O B') : B = B' := by
  have h1 := h.2.2 (zb B') h'.1 h'.2.1
  have h2 := h'.2.2 (zb B) h.1 h.2.1
  have hw : sw wn (zb B) c = sw wn (zb B') c := by
    rcases Nat.lt_trichotomy (sw wn (zb B) c) (sw wn (zb B') c) with q | q | q
    · exact absurd (Or.inl q) h2
    · exact q
    · exact absurd (Or.inl q) h1
  exact zb_ext (fun i _ => lex_tot (fun q => h2 (Or.inr ⟨hw, q⟩)) (fun q => h1 (Or.inr ⟨hw.symm, q⟩)) i)
theorem sv_ok {pl : Nat → Int64} {q : Nat} (hq : q < 32) : ∀ c, c ≤ 63 → ∀ i, zb (fo (mc_svf pl q) c 0) i = (decide (i < c) && zb (pl i) q) := by
  intro c
  induction c with
  | zero => intro _ i; rw [fo_0, zb_0]; simp
  | succ c ih =>
    intro hc i
    have hb : ∀ (x : Int64) (j : Nat), zb (((x >>> ((nI q).toInt64 &&& 63)) &&& 1) <<< ((nI c).toInt64 &&& 63)) j = (decide (j = c) && zb x q) := by
      intro x j
      have e : (x >>> ((nI q).toInt64 &&& 63)) &&& 1 = if zb x q = true then 1 else 0 := by
        apply zb_ext
        intro k hk
        rw [zb_and, zb_1]
        by_cases h0 : k = 0
        · subst h0
          rw [zb_sar x (by omega)]
          cases zb x q <;> simp [zb_0, zb_1]
        · cases zb x q <;> simp [zb_0, zb_1, h0]
      rw [e]
      cases hz : zb x q with
      | true =>
        rw [if_pos rfl]
        show zb (zo c) j = _
        rw [zb_zo (by omega)]; simp
      | false =>
        rw [if_neg (by decide)]
        have : ∀ k, k < 64 → (0 : Int64) <<< ((nI k).toInt64 &&& 63) = 0 := by decide +kernel
        rw [this c (by omega), zb_0]; simp
    rw [fo_s]
    unfold mc_svf
    rw [zb_or, hb]
    have := ih (by omega) i
    unfold mc_svf at this
    rw [this]
    by_cases hi : i = c
    · subst hi; simp
    · have e : decide (i < c + 1) = decide (i < c) := by simp; omega
      rw [e]; simp [hi]
theorem sef_at {pla : Nat → Int64} {cn : Nat} {ser : Nat → Int64} : ∀ n q, q < n → (fo (mc_sef pla cn) n ser) q = fo (mc_svf pla q) cn 0 := by
  intro n
  induction n with
  | zero => intro q h; omega
  | succ n ih =>
    intro q h
    rw [fo_s]
    unfold mc_sef
    by_cases hq : q = n
    · subst hq; exact pk_uLs
    · rw [pk_uLn hq]
      exact ih q (by omega)
theorem wef_at {siz : Nat → Int32} {wei : Nat → Int32} : ∀ n i, i < n → (fo (mc_wef siz) n wei) i = 1000 + siz i := by
  intro n
  induction n with
  | zero => intro i h; omega
  | succ n ih =>
    intro i h
    rw [fo_s]
    unfold mc_wef
    by_cases hq : i = n
    · subst hq; exact pk_us
    · rw [pk_un hq]
      exact ih i (by omega)
/-- what findLeast's search finds -/
theorem ext_least (pop : Int64 → Int32) {c : Nat} {pl : Nat → Int64} {siz wei : Nat → Int32} {sz : Nat → Nat} {ser : Nat → Int64} {O : Int64} (hc : c ≤ 63) (hs : ∀ i, i < c → siz i = nI (sz i) ∧ sz i ≤ 4) (h32 : ∀ q, zb O q = true → q < 32) (hcov : Cov c pl O (fun i => decide (i < c))) :
    ∃ B, m_ext pop c pl (fo (mc_wef siz) c wei) (fo (mc_sef pl c) 32 ser) 32 O (zo c - 1) 0 0 (1000000, 0) = (nI (sw (fun i => 1000 + sz i) (zb B) c), B) ∧ LeastOf c pl (fun i => 1000 + sz i) O B := by
  have hw : ∀ i, i < c → (fo (mc_wef siz) c wei) i = nI (1000 + sz i) ∧ 0 < 1000 + sz i ∧ 1000 + sz i < 2 ^ 20 := fun i hi => by
    obtain ⟨e, h4⟩ := hs i hi
    refine ⟨?_, by omega, by omega⟩
    rw [wef_at c i hi, e, show (1000 : Int32) = nI 1000 from rfl, nI_add]
  have hsv : ∀ q i, q < 32 → zb ((fo (mc_sef pl c) 32 ser) q) i = (decide (i < c) && zb (pl i) q) := fun q i hq => by
    rw [sef_at 32 q hq, sv_ok hq c hc i]
  have hle : ∀ S : Nat → Bool, sw (fun i => 1000 + sz i) S c ≤ c * 1004 := fun S => sw_le (fun i hi => by have := (hs i hi).2; omega)
  have hpc : pcn O ≤ 32 := by
    have := sw_le (w := fun _ => 1) (S := zb O) (n := 32) (m := 1) (fun _ _ => Nat.le_refl 1)
    unfold pcn; omega
  obtain ⟨bw, bs, h1, h2, h3, h4, h5⟩ := ext_ok pop hc hw hsv 32 O (zo c - 1) 0 0 1000000 0 h32 hpc (fun k hk => by
    rw [zb_full (by omega)] at hk
    exact ⟨of_decide_eq_true hk, zb_0 k⟩) (by have := hle (zb (zo c - 1)); have : c * 1004 ≤ 63 * 1004 := Nat.mul_le_mul_right _ hc; omega) (Nat.le_refl _)
  have hsub : ∀ S : Nat → Bool, (∀ i, S i = true → i < c) → Sub c S (zo c - 1) := fun S h i hi => ⟨h i hi, by rw [zb_full (by omega)]; exact decide_eq_true (h i hi)⟩
  have hun : ∀ (S : Nat → Bool) i, un 0 S i = S i := fun S i => by
    show (zb 0 i || S i) = S i
    rw [zb_0]; rfl
  rcases h3 with ⟨e1, e2⟩ | ⟨S, s1, s2, s3, s4⟩
  · exfalso
    subst e1; subst e2
    refine h4 (fun i => decide (i < c)) (hsub _ (fun i hi => of_decide_eq_true hi)) hcov (Or.inl ?_)
    have := hle (fun i => decide (i < c))
    have : c * 1004 ≤ 63 * 1004 := Nat.mul_le_mul_right _ hc
    omega
  · have e : ∀ i, zb bs i = S i := fun i => by rw [s4 i, hun]
    have ew : sw (fun i => 1000 + sz i) (zb bs) c = sw (fun i => 1000 + sz i) S c := sw_congr (fun i _ => e i)
    refine ⟨bs, ?_, fun i hi => (s1 i (by rw [← e i]; exact hi)).1, fun q hq => ?_, fun T t1 t2 hB => ?_⟩
    · rw [show (0 : Int32) = nI 0 from rfl, show (1000000 : Int32) = nI 1000000 from rfl, h1, ew, s3, Nat.zero_add]
    · obtain ⟨i, a1, a2, a3⟩ := s2 q hq
      exact ⟨i, a1, by rw [e i]; exact a2, a3⟩
    · refine h4 T (hsub T t1) t2 ?_
      rw [s3, Nat.zero_add, Nat.zero_add, ← ew]
      exact bet_congr (fun i => (hun T i).symm) (fun _ => rfl) hB
