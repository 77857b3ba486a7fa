/-! the search for the least cover, over numbers alone -/
/-- S serves all places of O -/
def Cov (c : Nat) (pl : Nat → Int64) (O : Int64) (S : Nat → Bool) : Prop := ∀ q, zb O q = true → ∃ i, i < c ∧ S i = true ∧ zb (pl i) q = true
def Sub (c : Nat) (S : Nat → Bool) (F : Int64) : Prop := ∀ i, S i = true → i < c ∧ zb F i = true
def Bet (a : Nat) (S : Nat → Bool) (b : Nat) (T : Nat → Bool) : Prop := a < b ∨ (a = b ∧ Lex S T)
theorem bet_neg {a b : Nat} {S T : Nat → Bool} (e : Nat) (U : Nat → Bool) (h : Bet a S b T) : Bet a S e U ∨ Bet e U b T := by
  rcases Nat.lt_trichotomy a e with q | q | q
  · exact Or.inl (Or.inl q)
  · rcases h with h | ⟨h, g⟩
    · exact Or.inr (Or.inl (by omega))
    · rcases lex_neg U g with g | g
      · exact Or.inl (Or.inr ⟨q, g⟩)
      · exact Or.inr (Or.inr ⟨by omega, g⟩)
  · rcases h with h | ⟨h, -⟩
    · exact Or.inr (Or.inl (by omega))
    · exact Or.inr (Or.inl (by omega))
/-- no X comes before b, b2 isn't behind b: no X comes before b2 -/
theorem bet_tr {a b b2 : Nat} {S T T2 : Nat → Bool} (h1 : ¬ Bet a S b T) (h2 : ¬ Bet b T b2 T2) : ¬ Bet a S b2 T2 := fun h => by
  rcases bet_neg b T h with h | h
  · exact h1 h
  · exact h2 h
theorem bet_irr {a : Nat} {S : Nat → Bool} (h : Bet a S a S) : False := by
  rcases h with h | ⟨-, h⟩
  · omega
  · exact lex_irr h
theorem bet_asym {a b : Nat} {S T : Nat → Bool} (h : Bet a S b T) (h' : Bet b T a S) : False := by
  rcases h with h | ⟨h, g⟩ <;> rcases h' with h' | ⟨h', g'⟩
  · omega
  · omega
  · omega
  · exact lex_asym g g'
theorem bet_congr {a b : Nat} {S S' T T' : Nat → Bool} (hs : ∀ i, S i = S' i) (ht : ∀ i, T i = T' i) (h : Bet a S b T) : Bet a S' b T' := by
  rcases h with h | ⟨h, g⟩
  · exact Or.inl h
  · exact Or.inr ⟨h, lex_congr hs ht g⟩
def un (K : Int64) (S : Nat → Bool) : Nat → Bool := fun i => zb K i || S i
-- the code's functions
def m_bet (w : Int32) (x : Int64) (bw : Int32) (bs : Int64) : Bool := decide (w < bw) || (decide (w = bw) && !decide (x &&& ((x ^^^ bs) &&& -(x ^^^ bs)) = 0))
def m_domP (pl : Nat → Int64) (w : Nat → Int32) (i : Nat) (O U : Int64) (j : Nat) : Bool := (zb U j && decide ((pl i &&& O) &&& (pl j ^^^ (-1)) = 0)) && (decide (w j < w i) || (decide (w j = w i) && decide (j < i)))
def m_dom (c : Nat) (pl : Nat → Int64) (w : Nat → Int32) (i : Nat) (O U : Int64) : Bool := decide (pl i &&& O = 0) || exn c (m_domP pl w i O U)
def m_wdf (c : Nat) (pl : Nat → Int64) (w : Nat → Int32) (O F : Int64) : Nat → Int64 → Int64 := fun i u => if (zb F i && m_dom c pl w i O u) = true then u &&& (zo i ^^^ (-1)) else u
def m_wd (c : Nat) (pl : Nat → Int64) (w : Nat → Int32) (O F : Int64) : Int64 := fo (m_wdf c pl w O F) c F
def m_lightf (w : Nat → Int32) (some : Int64) : Nat → Int32 → Int32 := fun i b => if zb some i = true then (if w i < b then w i else b) else b
def m_light (c : Nat) (w : Nat → Int32) (some : Int64) : Int32 := fo (m_lightf w some) c 1000000
def m_wtcf (c : Nat) (w : Nat → Int32) (sv : Nat → Int64) (O U : Int64) : Nat → Int64 × Int32 → Int64 × Int32 := fun q a => if (zb O q && decide ((sv q &&& U) &&& a.1 = 0)) = true then (a.1 ||| (sv q &&& U), a.2 + m_light c w (sv q &&& U)) else a
def m_wtc (c : Nat) (w : Nat → Int32) (sv : Nat → Int64) (O U : Int64) : Int64 × Int32 := fo (m_wtcf c w sv O U) 32 (0, 0)
def m_fewf (pop : Int64 → Int32) (sv : Nat → Int64) (O U : Int64) : Nat → Int64 → Int64 := fun q f => if (zb O q && decide (pop (sv q &&& U) < pop f)) = true then sv q &&& U else f
def m_few (pop : Int64 → Int32) (sv : Nat → Int64) (O U : Int64) : Int64 := fo (m_fewf pop sv O U) 32 U
def m_keep (W : Int32) (K : Int64) (b : Int32 × Int64) : Int32 × Int64 := if m_bet W K b.1 b.2 = true then (W, K) else b
def m_loopf (pl : Nat → Int64) (w : Nat → Int32) (T : Int64) (O : Int64) (W : Int32) (K : Int64) (rec : Int64 → Int64 → Int32 → Int64 → Int32 × Int64 → Int32 × Int64) : Nat → Int64 × (Int32 × Int64) → Int64 × (Int32 × Int64) := fun i a => if zb T i = true then (a.1 &&& (zo i ^^^ (-1)), rec (O &&& (pl i ^^^ (-1))) (a.1 &&& (zo i ^^^ (-1))) (W + w i) (K ||| zo i) a.2) else a
def m_ext (pop : Int64 → Int32) (c : Nat) (pl : Nat → Int64) (w : Nat → Int32) (sv : Nat → Int64) : Nat → Int64 → Int64 → Int32 → Int64 → Int32 × Int64 → Int32 × Int64
  | 0, O, _, W, K, b => if O = 0 then m_keep W K b else b
  | d + 1, O, F, W, K, b => if O = 0 then m_keep W K b else
      if m_bet (W + (m_wtc c w sv O (m_wd c pl w O F)).2) (K ||| m_wd c pl w O F) b.1 b.2 = true then
        (fo (m_loopf pl w (m_few pop sv O (m_wd c pl w O F)) O W K (m_ext pop c pl w sv d)) c (m_wd c pl w O F, b)).2
      else b
theorem m_bet_iff {a b : Nat} (ha : a < 2 ^ 31) (hb : b < 2 ^ 31) (x y : Int64) : m_bet (nI a) x (nI b) y = true ↔ Bet a (zb x) b (zb y) := by
  have h := lex_code x y
  unfold m_bet Bet
  simp only [Bool.or_eq_true, Bool.and_eq_true, decide_eq_true_eq, Bool.not_eq_true', decide_eq_false_iff_not, nI_ltI ha hb, nI_eq ha hb, h, Classical.not_not]
-- candidates that need not be looked at
theorem dom_step {c : Nat} {pl : Nat → Int64} {w : Nat → Int32} {wn : Nat → Nat} (hc : c ≤ 63) (hw : ∀ i, i < c → w i = nI (wn i) ∧ 0 < wn i ∧ wn i < 2 ^ 20) {O U K : Int64} {W i : Nat} {S : Nat → Bool} (hi : i < c) (hU : ∀ k, zb U k = true → zb K k = false) (hd : m_dom c pl w i O U = true) (hS : Sub c S U) (hO : Cov c pl O S) :
    ∃ S', Sub c S' (U &&& (zo i ^^^ (-1))) ∧ Cov c pl O S' ∧ ¬ Bet (W + sw wn S c) (un K S) (W + sw wn S' c) (un K S') := by
  have hi64 : i < 64 := by omega
  cases hsi : S i with
  | false =>
    refine ⟨S, fun k hk => ⟨(hS k hk).1, ?_⟩, hO, bet_irr⟩
    rw [zb_del _ hi64, (hS k hk).2]
    have : k ≠ i := fun h => by rw [h, hsi] at hk; cases hk
    simp [this]
  | true =>
    have hsw := sw_su (w := wn) (S := S) (i := i) (b := false) hi
    rw [hsi] at hsw
    simp at hsw
    have hwi := (hw i hi).2.1
    unfold m_dom at hd
    rw [Bool.or_eq_true, decide_eq_true_eq, exn_iff] at hd
    rcases hd with hd | ⟨j, hj, hd⟩
    · refine ⟨su S i false, fun k hk => ?_, fun q hq => ?_, ?_⟩
      · by_cases h : k = i
        · subst h; rw [su_s] at hk; cases hk
        · rw [su_n S false h] at hk
          refine ⟨(hS k hk).1, ?_⟩
          rw [zb_del _ hi64, (hS k hk).2]; simp [h]
      · obtain ⟨k, h1, h2, h3⟩ := hO q hq
        by_cases h : k = i
        · subst h
          have := zb_eq0.mp hd q
          rw [zb_and, h3, hq] at this; cases this
        · exact ⟨k, h1, by rw [su_n S false h]; exact h2, h3⟩
      · rintro (h | ⟨h, -⟩) <;> omega
    · simp only [m_domP, Bool.and_eq_true, Bool.or_eq_true, decide_eq_true_eq] at hd
      obtain ⟨⟨hUj, hown⟩, hlt⟩ := hd
      rw [(hw i hi).1, (hw j hj).1] at hlt
      have bi := (hw i hi).2.2
      have bj := (hw j hj).2.2
      rw [nI_ltI (by omega) (by omega), nI_eq (by omega) (by omega)] at hlt
      have hji : j ≠ i := fun h => by subst h; omega
      have hsw2 := sw_su (w := wn) (S := su S i false) (i := j) (b := true) hj
      rw [su_n S false hji] at hsw2
      simp at hsw2
      refine ⟨su (su S i false) j true, fun k hk => ?_, fun q hq => ?_, ?_⟩
      · by_cases h : k = j
        · subst h
          refine ⟨hj, ?_⟩
          rw [zb_del _ hi64, hUj]; simp [hji]
        · rw [su_n _ true h] at hk
          by_cases h2 : k = i
          · subst h2; rw [su_s] at hk; cases hk
          · rw [su_n S false h2] at hk
            refine ⟨(hS k hk).1, ?_⟩
            rw [zb_del _ hi64, (hS k hk).2]; simp [h2]
      · obtain ⟨k, h1, h2, h3⟩ := hO q hq
        by_cases h : k = i
        · subst h
          refine ⟨j, hj, su_s _ _ _, ?_⟩
          have := zb_eq0.mp hown q
          rw [zb_diff, zb_and, h3, hq] at this
          simpa using this
        · refine ⟨k, h1, ?_, h3⟩
          by_cases h4 : k = j
          · subst h4; exact su_s _ _ _
          · rw [su_n _ true h4, su_n S false h]; exact h2
      · intro hb
        cases hsj : S j with
        | true =>
          rw [hsj] at hsw2
          simp at hsw2
          rcases hb with h | ⟨h, -⟩ <;> omega
        | false =>
          rw [hsj] at hsw2
          simp at hsw2
          rcases hlt with hlt | ⟨hlt, hlt2⟩
          · rcases hb with h | ⟨h, -⟩ <;> omega
          · rcases hb with h | ⟨-, h⟩
            · omega
            · refine lex_asym h ⟨j, ?_, ?_, fun k hk => ?_⟩
              · show (zb K j || su (su S i false) j true j) = true
                rw [su_s]; simp
              · show (zb K j || S j) = false
                rw [hU j hUj, hsj]; rfl
              · show (zb K k || su (su S i false) j true k) = (zb K k || S k)
                rw [su_n _ true (by omega), su_n S false (by omega)]
theorem wd_ok {c : Nat} {pl : Nat → Int64} {w : Nat → Int32} {wn : Nat → Nat} (hc : c ≤ 63) (hw : ∀ i, i < c → w i = nI (wn i) ∧ 0 < wn i ∧ wn i < 2 ^ 20) {O F K : Int64} {W : Nat} (hF : ∀ k, zb F k = true → k < c ∧ zb K k = false) :
    ∀ n, n ≤ c → (∀ k, zb (fo (m_wdf c pl w O F) n F) k = true → zb F k = true) ∧ (∀ k, n ≤ k → zb (fo (m_wdf c pl w O F) n F) k = zb F k) ∧ (∀ k, k < n → zb (fo (m_wdf c pl w O F) n F) k = true → ¬ pl k &&& O = 0) ∧
      ∀ S, Sub c S F → Cov c pl O S → ∃ S', Sub c S' (fo (m_wdf c pl w O F) n F) ∧ Cov c pl O S' ∧ ¬ Bet (W + sw wn S c) (un K S) (W + sw wn S' c) (un K S') := by
  intro n
  induction n with
  | zero => exact fun _ => ⟨fun k h => h, fun k _ => rfl, fun k h => absurd h (by omega), fun S h1 h2 => ⟨S, h1, h2, bet_irr⟩⟩
  | succ n ih =>
    intro hn
    obtain ⟨i1, i2, i3, i4⟩ := ih (by omega)
    have hn64 : n < 64 := by omega
    rw [fo_s]
    generalize hu : fo (m_wdf c pl w O F) n F = u at i1 i2 i3 i4 ⊢
    unfold m_wdf
    by_cases hd : (zb F n && m_dom c pl w n O u) = true
    · rw [if_pos hd]
      rw [Bool.and_eq_true] at hd
      refine ⟨fun k h => ?_, fun k h => ?_, fun k h h' => ?_, fun S h1 h2 => ?_⟩
      · rw [zb_del _ hn64, Bool.and_eq_true] at h; exact i1 k h.1
      · rw [zb_del _ hn64, i2 k (by omega)]; simp; omega
      · rw [zb_del _ hn64, Bool.and_eq_true] at h'
        by_cases hk : k = n
        · subst hk; simp at h'
        · exact i3 k (by omega) h'.1
      · obtain ⟨S1, a1, a2, a3⟩ := i4 S h1 h2
        obtain ⟨S2, b1, b2, b3⟩ := dom_step (W := W) (K := K) hc hw (by omega) (fun k hk => (hF k (i1 k hk)).2) hd.2 a1 a2
        exact ⟨S2, b1, b2, bet_tr a3 b3⟩
    · rw [if_neg hd]
      refine ⟨i1, fun k h => i2 k (by omega), fun k h h' => ?_, i4⟩
      by_cases hk : k = n
      · subst hk
        intro h0
        apply hd
        rw [Bool.and_eq_true]
        refine ⟨i1 k h', ?_⟩
        unfold m_dom
        rw [decide_eq_true h0]; rfl
      · exact i3 k (by omega) h'
-- a bound on what is to come
theorem light_ok {c : Nat} {w : Nat → Int32} {wn : Nat → Nat} (hw : ∀ i, i < c → w i = nI (wn i) ∧ 0 < wn i ∧ wn i < 2 ^ 20) (some : Int64) : ∀ n, n ≤ c → ∃ g : Nat, fo (m_lightf w some) n 1000000 = nI g ∧ g ≤ 1000000 ∧ ∀ i, i < n → zb some i = true → g ≤ wn i := by
  intro n
  induction n with
  | zero => exact fun _ => ⟨1000000, rfl, Nat.le_refl _, fun i h => absurd h (by omega)⟩
  | succ n ih =>
    intro hn
    obtain ⟨g, h1, h2, h3⟩ := ih (by omega)
    obtain ⟨e1, e2, e3⟩ := hw n (by omega)
    rw [fo_s, h1]
    unfold m_lightf
    by_cases hb : zb some n = true
    · rw [if_pos hb, e1]
      by_cases hl : wn n < g
      · rw [if_pos ((nI_ltI (by omega) (by omega)).mpr hl)]
        refine ⟨wn n, rfl, by omega, fun i hi hz => ?_⟩
        by_cases hk : i = n
        · subst hk; exact Nat.le_refl _
        · have := h3 i (by omega) hz; omega
      · rw [if_neg (fun h => hl ((nI_ltI (by omega) (by omega)).mp h))]
        refine ⟨g, rfl, h2, fun i hi hz => ?_⟩
        by_cases hk : i = n
        · subst hk; omega
        · exact h3 i (by omega) hz
    · rw [if_neg hb]
      refine ⟨g, rfl, h2, fun i hi hz => ?_⟩
      by_cases hk : i = n
      · subst hk; exact absurd hz hb
      · exact h3 i (by omega) hz
theorem wtc_ok {c : Nat} {pl : Nat → Int64} {w : Nat → Int32} {wn : Nat → Nat} {sv : Nat → Int64} (hw : ∀ i, i < c → w i = nI (wn i) ∧ 0 < wn i ∧ wn i < 2 ^ 20) (hsv : ∀ q i, q < 32 → zb (sv q) i = (decide (i < c) && zb (pl i) q)) (O U : Int64) :
    ∀ n, n ≤ 32 → ∃ g : Nat, (fo (m_wtcf c w sv O U) n (0, 0)).2 = nI g ∧ g ≤ n * 1000000 ∧ ∀ S, Sub c S U → Cov c pl O S → g ≤ sw wn (fun i => S i && zb (fo (m_wtcf c w sv O U) n (0, 0)).1 i) c := by
  intro n
  induction n with
  | zero => exact fun _ => ⟨0, rfl, Nat.zero_le _, fun _ _ _ => Nat.zero_le _⟩
  | succ n ih =>
    intro hn
    obtain ⟨g, h1, h2, h3⟩ := ih (by omega)
    rw [fo_s]
    generalize fo (m_wtcf c w sv O U) n (0, 0) = a at h1 h3 ⊢
    unfold m_wtcf
    by_cases hd : (zb O n && decide ((sv n &&& U) &&& a.1 = 0)) = true
    · rw [if_pos hd]
      rw [Bool.and_eq_true, decide_eq_true_eq] at hd
      obtain ⟨gl, l1, l2, l3⟩ := light_ok hw (sv n &&& U) c (Nat.le_refl c)
      refine ⟨g + gl, ?_, by rw [Nat.succ_mul]; exact Nat.add_le_add h2 l2, fun S hS hO => ?_⟩
      · show a.2 + m_light c w (sv n &&& U) = _
        unfold m_light
        rw [h1, l1, nI_add]
      · obtain ⟨i, hi, hsi, hp⟩ := hO n hd.1
        have hin : zb (sv n &&& U) i = true := by
          rw [zb_and, hsv n i (by omega), hp, (hS i hsi).2]; simp [hi]
        have hnot : zb a.1 i = false := by
          have := zb_eq0.mp hd.2 i
          rw [zb_and, hin] at this; simpa using this
        have q1 := h3 S hS hO
        have q2 := l3 i hi hin
        have q3 := sw_one (w := wn) (S := fun i => S i && zb a.1 i) (T := fun i => S i && zb (a.1 ||| (sv n &&& U)) i) (n := c) (i := i) (fun j hj hs => by
          simp only [Bool.and_eq_true] at hs ⊢
          exact ⟨hs.1, by rw [zb_or, hs.2]; rfl⟩) hi (by simp [hnot]) (by simp only [hsi, zb_or, hin]; simp)
        show g + gl ≤ sw wn (fun i => S i && zb (a.1 ||| (sv n &&& U)) i) c
        omega
    · rw [if_neg hd]
      exact ⟨g, h1, Nat.le_trans h2 (Nat.mul_le_mul_right _ (Nat.le_succ n)), h3⟩
theorem few_ok (pop : Int64 → Int32) (sv : Nat → Int64) (O U : Int64) : ∀ n, fo (m_fewf pop sv O U) n U = U ∨ ∃ q, q < n ∧ zb O q = true ∧ fo (m_fewf pop sv O U) n U = sv q &&& U := by
  intro n
  induction n with
  | zero => exact Or.inl rfl
  | succ n ih =>
    rw [fo_s]
    generalize fo (m_fewf pop sv O U) n U = f at ih ⊢
    unfold m_fewf
    by_cases hd : (zb O n && decide (pop (sv n &&& U) < pop f)) = true
    · rw [if_pos hd]
      rw [Bool.and_eq_true] at hd
      exact Or.inr ⟨n, by omega, hd.1, rfl⟩
    · rw [if_neg hd]
      rcases ih with h | ⟨q, a, b, h⟩
      · exact Or.inl h
      · exact Or.inr ⟨q, by omega, b, h⟩
/-- how many places are open -/
def pcn (O : Int64) : Nat := sw (fun _ => 1) (zb O) 32
theorem pcn_lt {O P : Int64} {q : Nat} (hq : q < 32) (h1 : zb O q = true) (h2 : zb P q = true) : pcn (O &&& (P ^^^ (-1))) + 1 ≤ pcn O :=
  sw_one (w := fun _ => 1) (i := q) (fun j _ hs => by rw [zb_diff, Bool.and_eq_true] at hs; exact hs.1) hq (by rw [zb_diff, h1, h2]; rfl) h1
theorem pcn_0 {O : Int64} (h32 : ∀ q, zb O q = true → q < 32) (h : pcn O = 0) : O = 0 := by
  refine Classical.byContradiction fun hn => ?_
  obtain ⟨q, hq⟩ := zb_ne0.mp hn
  have := pcn_lt (h32 q hq) hq hq
  omega
/-- what a part of the search answers: the best of what was and of all covers of O by candidates of F, beside K -/
def ExtR (c : Nat) (pl : Nat → Int64) (wn : Nat → Nat) (O F : Int64) (W : Nat) (K : Int64) (bw : Nat) (bs : Int64) (bw' : Nat) (bs' : Int64) : Prop :=
  bw' ≤ 1000000 ∧ ((bw' = bw ∧ bs' = bs) ∨ ∃ S, Sub c S F ∧ Cov c pl O S ∧ bw' = W + sw wn S c ∧ ∀ i, zb bs' i = un K S i) ∧ (∀ S, Sub c S F → Cov c pl O S → ¬ Bet (W + sw wn S c) (un K S) bw' (zb bs')) ∧ ¬ Bet bw (zb bs) bw' (zb bs')
theorem keep_ok {c : Nat} {pl : Nat → Int64} {wn : Nat → Nat} (hp : ∀ i, i < c → 0 < wn i) (F K : Int64) {W bw : Nat} (bs : Int64) (hW : W < 2 ^ 30) (hbw : bw ≤ 1000000) : ∃ bw' bs', m_keep (nI W) K (nI bw, bs) = (nI bw', bs') ∧ ExtR c pl wn 0 F W K bw bs bw' bs' := by
  have hiff := m_bet_iff (a := W) (b := bw) (by omega) (by omega) K bs
  have hle : ∀ S : Nat → Bool, ¬ Bet (W + sw wn S c) (un K S) W (zb K) ∨ True := fun S => Or.inr trivial
  have key : ∀ S : Nat → Bool, Sub c S F → ¬ Bet (W + sw wn S c) (un K S) W (zb K) := by
    intro S hS hb
    by_cases hz : ∃ i, S i = true
    · obtain ⟨i, hi⟩ := hz
      have hic := (hS i hi).1
      have := sw_one (w := wn) (S := fun _ => false) (T := S) (n := c) (i := i) (fun j _ h => by cases h) hic rfl hi
      have := hp i hic
      rcases hb with h | ⟨h, -⟩ <;> omega
    · rcases hb with h | ⟨-, h⟩
      · omega
      · refine lex_irr (S := zb K) (lex_congr (fun i => ?_) (fun _ => rfl) h)
        show (zb K i || S i) = zb K i
        cases hs : S i with
        | true => exact absurd ⟨i, hs⟩ hz
        | false => simp
  unfold m_keep
  by_cases hb : m_bet (nI W) K (nI bw) bs = true
  · rw [if_pos hb]
    have hB := hiff.mp hb
    refine ⟨W, K, rfl, by rcases hB with h | ⟨h, -⟩ <;> omega, Or.inr ⟨fun _ => false, fun i h => by (cases h), fun q h => (by rw [zb_0] at h; cases h), ?_, fun i => ?_⟩, fun S hS _ => key S hS, fun h => bet_asym hB h⟩
    · have : sw wn (fun _ => false) c = 0 := by
        have := sw_le (w := fun _ => 0) (S := fun _ => false) (n := c) (m := 0) (fun _ _ => Nat.le_refl 0)
        clear this
        clear hb hB key hle hiff
        induction c with
        | zero => rfl
        | succ n ih => rw [sw, ih (fun i hi => hp i (by omega))]; rfl
      omega
    · show zb K i = (zb K i || false)
      simp
  · rw [if_neg hb]
    exact ⟨bw, bs, rfl, hbw, Or.inl ⟨rfl, rfl⟩, fun S hS _ => bet_tr (key S hS) (fun h => hb (hiff.mpr h)), bet_irr⟩
set_option maxHeartbeats 1000000 in
theorem ext_ok (pop : Int64 → Int32) {c : Nat} {pl : Nat → Int64} {w : Nat → Int32} {wn : Nat → Nat} {sv : Nat → Int64} (hc : c ≤ 63) (hw : ∀ i, i < c → w i = nI (wn i) ∧ 0 < wn i ∧ wn i < 2 ^ 20) (hsv : ∀ q i, q < 32 → zb (sv q) i = (decide (i < c) && zb (pl i) q)) :
    ∀ (d : Nat) (O F : Int64) (W : Nat) (K : Int64) (bw : Nat) (bs : Int64), (∀ q, zb O q = true → q < 32) → pcn O ≤ d → (∀ k, zb F k = true → k < c ∧ zb K k = false) → W + sw wn (zb F) c < 2 ^ 28 → bw ≤ 1000000 →
      ∃ bw' bs', m_ext pop c pl w sv d O F (nI W) K (nI bw, bs) = (nI bw', bs') ∧ ExtR c pl wn O F W K bw bs bw' bs' := by
  have hp : ∀ i, i < c → 0 < wn i := fun i hi => (hw i hi).2.1
  intro d
  induction d with
  | zero =>
    intro O F W K bw bs h32 hd hF hW hbw
    have h0 := pcn_0 h32 (by omega)
    subst h0
    rw [m_ext, if_pos rfl]
    exact keep_ok hp F K bs (by omega) hbw
  | succ d ih =>
    intro O F W K bw bs h32 hd hF hW hbw
    rw [m_ext]
    by_cases hO : O = 0
    · subst hO
      rw [if_pos rfl]
      exact keep_ok hp F K bs (by omega) hbw
    rw [if_neg hO]
    obtain ⟨u1, -, u3, u4⟩ := wd_ok (pl := pl) (O := O) (F := F) (K := K) (W := W) hc hw hF c (Nat.le_refl c)
    change ∀ k, zb (m_wd c pl w O F) k = true → zb F k = true at u1
    change ∀ k, k < c → zb (m_wd c pl w O F) k = true → ¬ pl k &&& O = 0 at u3
    change ∀ S, Sub c S F → Cov c pl O S → ∃ S', Sub c S' (m_wd c pl w O F) ∧ Cov c pl O S' ∧ ¬ Bet (W + sw wn S c) (un K S) (W + sw wn S' c) (un K S') at u4
    generalize m_wd c pl w O F = U at u1 u3 u4 ⊢
    obtain ⟨g, g1, g2, g3⟩ := wtc_ok (pl := pl) hw hsv O U 32 (Nat.le_refl 32)
    change (m_wtc c w sv O U).2 = nI g at g1
    have hlb : ∀ S, Sub c S U → Cov c pl O S → g ≤ sw wn S c := fun S h1 h2 => Nat.le_trans (g3 S h1 h2) (sw_mono (fun i _ h => by
      rw [Bool.and_eq_true] at h; exact h.1))
    have hUF : ∀ S, Sub c S U → Sub c S F := fun S h i hi => ⟨(h i hi).1, u1 i (h i hi).2⟩
    have hst := m_bet_iff (a := W + g) (b := bw) (by omega) (by omega) (K ||| U) bs
    rw [g1, nI_add]
    by_cases hb : m_bet (nI (W + g)) (K ||| U) (nI bw) bs = true
    · rw [if_pos hb]
      -- the loop
      have hT := few_ok pop sv O U 32
      change m_few pop sv O U = U ∨ ∃ q, q < 32 ∧ zb O q = true ∧ m_few pop sv O U = sv q &&& U at hT
      generalize m_few pop sv O U = T at hT ⊢
      have hTU : ∀ i, zb T i = true → zb U i = true := fun i hi => by
        rcases hT with h | ⟨q, -, -, h⟩
        · rw [h] at hi; exact hi
        · rw [h, zb_and, Bool.and_eq_true] at hi; exact hi.2
      have hmeet : ∀ S, Sub c S U → Cov c pl O S → ∃ i, i < c ∧ S i = true ∧ zb T i = true := fun S h1 h2 => by
        rcases hT with h | ⟨q, hq, hz, h⟩
        · obtain ⟨q, hq⟩ := zb_ne0.mp hO
          obtain ⟨i, a1, a2, -⟩ := h2 q hq
          exact ⟨i, a1, a2, by rw [h]; exact (h1 i a2).2⟩
        · obtain ⟨i, a1, a2, a3⟩ := h2 q hz
          refine ⟨i, a1, a2, ?_⟩
          rw [h, zb_and, hsv q i hq, a3, (h1 i a2).2]; simp [a1]
      have loop : ∀ n, n ≤ c → ∃ (v : Int64) (bw' : Nat) (bs' : Int64), fo (m_loopf pl w T O (nI W) K (m_ext pop c pl w sv d)) n (U, (nI bw, bs)) = (v, (nI bw', bs')) ∧ (∀ k, zb v k = (zb U k && !(zb T k && decide (k < n)))) ∧ bw' ≤ 1000000 ∧ ((bw' = bw ∧ bs' = bs) ∨ ∃ S, Sub c S F ∧ Cov c pl O S ∧ bw' = W + sw wn S c ∧ ∀ i, zb bs' i = un K S i) ∧ (∀ S, Sub c S U → Cov c pl O S → (∃ k, k < n ∧ zb T k = true ∧ S k = true) → ¬ Bet (W + sw wn S c) (un K S) bw' (zb bs')) ∧ ¬ Bet bw (zb bs) bw' (zb bs') := by
        intro n
        induction n with
        | zero =>
          intro _
          refine ⟨U, bw, bs, rfl, fun k => by simp, hbw, Or.inl ⟨rfl, rfl⟩, fun S _ _ ⟨k, hk, _⟩ => absurd hk (by omega), bet_irr⟩
        | succ n ihn =>
          intro hn
          obtain ⟨v, bw1, bs1, e1, e2, e3, e4, e5, e6⟩ := ihn (by omega)
          have hn64 : n < 64 := by omega
          rw [fo_s, e1]
          unfold m_loopf
          by_cases ht : zb T n = true
          · rw [if_pos ht]
            have hUn := hTU n ht
            have hKn := hF n (u1 n hUn)
            have hv : ∀ k, zb (v &&& (zo n ^^^ (-1))) k = (zb U k && !(zb T k && decide (k < n + 1))) := fun k => by
              rw [zb_del _ hn64, e2]
              by_cases hk : k = n
              · subst hk; rw [ht]; simp
              · have : decide (k < n + 1) = decide (k < n) := by simp; omega
                rw [this]; simp [hk]
            obtain ⟨wn1, wn2, wn3⟩ := hw n (by omega)
            have hvF : ∀ k, zb (v &&& (zo n ^^^ (-1))) k = true → zb F k = true ∧ k ≠ n := fun k hk => by
              have hk' := hk
              rw [hv, Bool.and_eq_true] at hk
              refine ⟨u1 k hk.1, fun h => ?_⟩
              subst h
              rw [zb_del _ hn64] at hk'; simp at hk'
            obtain ⟨qq, hqq⟩ := zb_ne0.mp (u3 n (by omega) hUn)
            rw [zb_and, Bool.and_eq_true] at hqq
            have hsum := sw_one (w := wn) (S := zb (v &&& (zo n ^^^ (-1)))) (T := zb F) (n := c) (i := n) (fun j _ hj => (hvF j hj).1) (by omega) (by rw [zb_del _ hn64]; simp) (u1 n hUn)
            obtain ⟨bw2, bs2, x1, x2, x3, x4, x5⟩ := ih (O &&& (pl n ^^^ (-1))) (v &&& (zo n ^^^ (-1))) (W + wn n) (K ||| zo n) bw1 bs1
              (fun q hq => by rw [zb_diff, Bool.and_eq_true] at hq; exact h32 q hq.1)
              (by have := pcn_lt (h32 qq hqq.2) hqq.2 hqq.1; omega)
              (fun k hk => by
                obtain ⟨a1, a2⟩ := hvF k hk
                refine ⟨(hF k a1).1, ?_⟩
                rw [zb_add _ hn64, (hF k a1).2]; simp [a2])
              (by omega) e3
            -- a cover of the rest, with n, is a cover
            have up : ∀ S, Sub c S (v &&& (zo n ^^^ (-1))) → Cov c pl (O &&& (pl n ^^^ (-1))) S → Sub c (su S n true) F ∧ Cov c pl O (su S n true) ∧ sw wn (su S n true) c = sw wn S c + wn n ∧ ∀ i, un (K ||| zo n) S i = un K (su S n true) i := by
              intro S h1 h2
              have hsn : S n = false := by
                cases h : S n with
                | true => exact absurd rfl (hvF n (h1 n h).2).2
                | false => rfl
              refine ⟨fun i hi => ?_, fun q hq => ?_, ?_, fun i => ?_⟩
              · by_cases h : i = n
                · subst h; exact ⟨by omega, u1 i hUn⟩
                · rw [su_n S true h] at hi; exact ⟨(h1 i hi).1, (hvF i (h1 i hi).2).1⟩
              · cases hz : zb (pl n) q with
                | true => exact ⟨n, by omega, su_s _ _ _, hz⟩
                | false =>
                  obtain ⟨i, a1, a2, a3⟩ := h2 q (by rw [zb_diff, hq, hz]; rfl)
                  refine ⟨i, a1, ?_, a3⟩
                  by_cases h : i = n
                  · subst h; exact su_s _ _ _
                  · rw [su_n S true h]; exact a2
              · have := sw_su (w := wn) (S := S) (i := n) (b := true) (n := c) (by omega)
                rw [hsn] at this
                simpa using this
              · show (zb (K ||| zo n) i || S i) = (zb K i || su S n true i)
                rw [zb_add _ hn64]
                by_cases h : i = n
                · subst h; rw [su_s]; simp
                · rw [su_n S true h]; simp [h]
            refine ⟨v &&& (zo n ^^^ (-1)), bw2, bs2, ?_, hv, x2, ?_, ?_, bet_tr e6 x5⟩
            · show (v &&& (zo n ^^^ (-1)), m_ext pop c pl w sv d (O &&& (pl n ^^^ (-1))) (v &&& (zo n ^^^ (-1))) (nI W + w n) (K ||| zo n) (nI bw1, bs1)) = _
              rw [wn1, nI_add, x1]
            · rcases x3 with ⟨a1, a2⟩ | ⟨S, a1, a2, a3, a4⟩
              · rw [a1, a2]; exact e4
              · obtain ⟨b1, b2, b3, b4⟩ := up S a1 a2
                exact Or.inr ⟨su S n true, b1, b2, by omega, fun i => by rw [a4 i]; exact b4 i⟩
            · rintro S h1 h2 ⟨k, hk, hkT, hkS⟩
              by_cases hold : ∃ k, k < n ∧ zb T k = true ∧ S k = true
              · exact bet_tr (e5 S h1 h2 hold) x5
              · have hkn : k = n := by
                  rcases Nat.lt_or_ge k n with h | h
                  · exact absurd ⟨k, h, hkT, hkS⟩ hold
                  · omega
                subst hkn
                have s1 : Sub c (su S k false) (v &&& (zo k ^^^ (-1))) := fun i hi => by
                  by_cases h : i = k
                  · subst h; rw [su_s] at hi; cases hi
                  · rw [su_n S false h] at hi
                    refine ⟨(h1 i hi).1, ?_⟩
                    rw [hv, (h1 i hi).2]
                    have : (zb T i && decide (i < k + 1)) = false := by
                      rw [Bool.eq_false_iff]
                      intro hq
                      rw [Bool.and_eq_true, decide_eq_true_eq] at hq
                      exact hold ⟨i, by omega, hq.1, hi⟩
                    rw [this]; rfl
                have s2 : Cov c pl (O &&& (pl k ^^^ (-1))) (su S k false) := fun q hq => by
                  rw [zb_diff, Bool.and_eq_true, Bool.not_eq_true'] at hq
                  obtain ⟨i, a1, a2, a3⟩ := h2 q hq.1
                  refine ⟨i, a1, ?_, a3⟩
                  have : i ≠ k := fun h => by subst h; rw [hq.2] at a3; cases a3
                  rw [su_n S false this]; exact a2
                have s3 := x4 (su S k false) s1 s2
                obtain ⟨-, -, t3, t4⟩ := up (su S k false) s1 s2
                have t5 : ∀ i, su (su S k false) k true i = S i := fun i => by
                  by_cases h : i = k
                  · subst h; rw [su_s, hkS]
                  · rw [su_n _ true h, su_n S false h]
                rw [sw_congr (S := su (su S k false) k true) (T := S) (fun i _ => t5 i)] at t3
                intro hB
                apply s3
                rw [show W + wn k + sw wn (su S k false) c = W + sw wn S c by omega]
                refine bet_congr (fun i => ?_) (fun _ => rfl) hB
                rw [t4 i]
                show (zb K i || S i) = (zb K i || su (su S k false) k true i)
                rw [t5]
          · rw [if_neg ht]
            refine ⟨v, bw1, bs1, rfl, fun k => ?_, e3, e4, ?_, e6⟩
            · rw [e2]
              by_cases hk : k = n
              · subst hk
                have : zb T k = false := by simpa using ht
                rw [this]; rfl
              · have : decide (k < n + 1) = decide (k < n) := by simp; omega
                rw [this]
            · rintro S h1 h2 ⟨k, hk, hkT, hkS⟩
              refine e5 S h1 h2 ⟨k, ?_, hkT, hkS⟩
              have : k ≠ n := fun h => by subst h; exact ht hkT
              omega
      obtain ⟨v, bw', bs', e1, -, e3, e4, e5, e6⟩ := loop c (Nat.le_refl c)
      rw [e1]
      refine ⟨bw', bs', rfl, e3, e4, fun S h1 h2 => ?_, e6⟩
      obtain ⟨S', a1, a2, a3⟩ := u4 S h1 h2
      obtain ⟨k, k1, k2, k3⟩ := hmeet S' a1 a2
      exact bet_tr a3 (e5 S' a1 a2 ⟨k, k1, k3, k2⟩)
    · rw [if_neg hb]
      refine ⟨bw, bs, rfl, hbw, Or.inl ⟨rfl, rfl⟩, fun S h1 h2 => ?_, bet_irr⟩
      obtain ⟨S', a1, a2, a3⟩ := u4 S h1 h2
      refine bet_tr a3 (fun hB => hb (hst.mpr ?_))
      have h3 := hlb S' a1 a2
      rcases Nat.lt_or_ge (W + g) bw with hl | hl
      · exact Or.inl hl
      · rcases hB with h | ⟨h, hx⟩
        · omega
        · refine Or.inr ⟨by omega, lex_sup hx (fun i hi => ?_)⟩
          have hi : (zb K i || S' i) = true := hi
          rw [zb_or]
          rw [Bool.or_eq_true] at hi ⊢
          rcases hi with hi | hi
          · exact Or.inl hi
          · exact Or.inr (a1 i hi).2
