section
/-! bits of longs, sets of small numbers, folds -/
/-- a fold over 0 .. n - 1 -/
def fo {α : Type} (f : Nat → α → α) : Nat → α → α
  | 0, a => a
  | n + 1, a => f n (fo f n a)
theorem fo_0 {α : Type} (f : Nat → α → α) (a : α) : fo f 0 a = a := rfl
theorem fo_s {α : Type} (f : Nat → α → α) (n : Nat) (a : α) : fo f (n + 1) a = f n (fo f n a) := rfl
/-- is there one below n -/
def exn (n : Nat) (P : Nat → Bool) : Bool := fo (fun j b => b || P j) n false
theorem exn_iff (n : Nat) (P : Nat → Bool) : exn n P = true ↔ ∃ j, j < n ∧ P j = true := by
  induction n with
  | zero => simp [exn, fo]
  | succ n ih =>
    show (exn n P || P n) = true ↔ _
    rw [Bool.or_eq_true, ih]
    constructor
    · rintro (⟨j, h1, h2⟩ | h)
      · exact ⟨j, by omega, h2⟩
      · exact ⟨n, by omega, h⟩
    · rintro ⟨j, h1, h2⟩
      rcases Nat.lt_or_ge j n with h | h
      · exact Or.inl ⟨j, h, h2⟩
      · have : j = n := by omega
        subst this; exact Or.inr h2
theorem exn_false {n : Nat} {P : Nat → Bool} (h : ∀ j, j < n → P j = false) : exn n P = false := by
  rw [Bool.eq_false_iff]
  intro h1
  obtain ⟨j, h2, h3⟩ := (exn_iff n P).mp h1
  rw [h j h2] at h3; cases h3
theorem exn_true {n : Nat} {P : Nat → Bool} {j : Nat} (h1 : j < n) (h2 : P j = true) : exn n P = true := (exn_iff n P).mpr ⟨j, h1, h2⟩
/-- bit i of a long -/
def zb (x : Int64) (i : Nat) : Bool := x.toBitVec.getLsbD i
theorem zb_ext {x y : Int64} (h : ∀ i, i < 64 → zb x i = zb y i) : x = y := Int64.toBitVec_inj.1 (BitVec.eq_of_getLsbD_eq h)
theorem zb_or (x y : Int64) (i : Nat) : zb (x ||| y) i = (zb x i || zb y i) := by simp [zb]
theorem zb_and (x y : Int64) (i : Nat) : zb (x &&& y) i = (zb x i && zb y i) := by simp [zb]
theorem zb_xor (x y : Int64) (i : Nat) : zb (x ^^^ y) i = (zb x i ^^ zb y i) := by simp [zb]
theorem zb_ge {x : Int64} {i : Nat} (h : 64 ≤ i) : zb x i = false := BitVec.getLsbD_of_ge _ _ h
theorem zb_lt {x : Int64} {i : Nat} (h : zb x i = true) : i < 64 := by
  rcases Nat.lt_or_ge i 64 with h1 | h1
  · exact h1
  · rw [zb_ge h1] at h; cases h
theorem zb_0 (i : Nat) : zb 0 i = false := by simp [zb]
theorem zb_m1 {i : Nat} (h : i < 64) : zb (-1) i = true := by
  have : ∀ j : Fin 64, zb (-1) j.val = true := by decide +kernel
  exact this ⟨i, h⟩
theorem zb_not (x : Int64) {i : Nat} (h : i < 64) : zb (x ^^^ (-1)) i = !zb x i := by rw [zb_xor, zb_m1 h]; simp
theorem zb_eq0 {x : Int64} : x = 0 ↔ ∀ i, zb x i = false := ⟨fun h i => by rw [h, zb_0], fun h => zb_ext (fun i _ => by rw [h, zb_0])⟩
theorem zb_ne0 {x : Int64} : ¬ x = 0 ↔ ∃ i, zb x i = true := by
  rw [zb_eq0]
  constructor
  · intro h
    exact Classical.byContradiction fun h1 => h fun i => by
      rw [Bool.eq_false_iff]; exact fun h2 => h1 ⟨i, h2⟩
  · rintro ⟨i, h⟩ h1
    rw [h1 i] at h; cases h
theorem zb_1 (j : Nat) : zb 1 j = decide (j = 0) := by
  rcases Nat.lt_or_ge j 64 with h | h
  · have : ∀ j : Fin 64, zb 1 j.val = decide (j.val = 0) := by decide +kernel
    exact this ⟨j, h⟩
  · rw [zb_ge h]; simp; omega
theorem zb_c : ∀ k, k < 64 → ((nI k).toInt64 &&& 63).toBitVec.smod 64 = BitVec.ofNat 64 k := by decide +kernel
/-- 1L << i -/
def zo (i : Nat) : Int64 := 1 <<< ((nI i).toInt64 &&& 63)
theorem zb_zo {i : Nat} (h : i < 64) (j : Nat) : zb (zo i) j = decide (j = i) := by
  rcases Nat.lt_or_ge j 64 with h1 | h1
  · have : ∀ i j : Fin 64, zb (zo i.val) j.val = decide (j.val = i.val) := by decide +kernel
    exact this ⟨i, h⟩ ⟨j, h1⟩
  · rw [zb_ge h1]; simp; omega
theorem zb_sar (x : Int64) {i : Nat} (h : i < 64) : zb (x >>> ((nI i).toInt64 &&& 63)) 0 = zb x i := by
  unfold zb
  rw [Int64.toBitVec_shiftRight, zb_c i h, BitVec.getLsbD_sshiftRight']
  have e : (BitVec.ofNat 64 i).toNat = i := by simp; omega
  rw [e]; simp [h]
/-- (x >> i & 1) == 0 -/
theorem zb_test (x : Int64) {i : Nat} (h : i < 64) : (x >>> ((nI i).toInt64 &&& 63)) &&& 1 = 0 ↔ zb x i = false := by
  rw [zb_eq0]
  constructor
  · intro h1
    have h2 := h1 0
    rw [zb_and, zb_sar x h, zb_1] at h2
    simpa using h2
  · intro h1 j
    rw [zb_and, zb_1]
    by_cases hj : j = 0
    · subst hj; rw [zb_sar x h, h1]; rfl
    · simp [hj]
/-- (x & 1 << i) == 0 -/
theorem zb_tz (x : Int64) {i : Nat} (h : i < 64) : x &&& zo i = 0 ↔ zb x i = false := by
  rw [zb_eq0]
  constructor
  · intro h1
    have h2 := h1 i
    rw [zb_and, zb_zo h] at h2
    simpa using h2
  · intro h1 j
    rw [zb_and, zb_zo h]
    by_cases hj : j = i
    · subst hj; rw [h1]; rfl
    · simp [hj]
/-- x & ~(1 << i) -/
theorem zb_del (x : Int64) {i : Nat} (h : i < 64) (j : Nat) : zb (x &&& (zo i ^^^ (-1))) j = (zb x j && !decide (j = i)) := by
  rcases Nat.lt_or_ge j 64 with h1 | h1
  · rw [zb_and, zb_not _ h1, zb_zo h]
  · rw [zb_ge h1, zb_ge h1]; rfl
theorem zb_add (x : Int64) {i : Nat} (h : i < 64) (j : Nat) : zb (x ||| zo i) j = (zb x j || decide (j = i)) := by
  rw [zb_or, zb_zo h]
theorem zb_diff (x y : Int64) (j : Nat) : zb (x &&& (y ^^^ (-1))) j = (zb x j && !zb y j) := by
  rcases Nat.lt_or_ge j 64 with h1 | h1
  · rw [zb_and, zb_not _ h1]
  · rw [zb_ge h1, zb_ge h1]; rfl
/-- (1L << n) - 1 -/
theorem zb_full {n : Nat} (h : n < 64) (j : Nat) : zb (zo n - 1) j = decide (j < n) := by
  rcases Nat.lt_or_ge j 64 with h1 | h1
  · have : ∀ i j : Fin 64, zb (zo i.val - 1) j.val = decide (j.val < i.val) := by decide +kernel
    exact this ⟨n, h⟩ ⟨j, h1⟩
  · rw [zb_ge h1]; simp; omega
theorem zb_neg (x : Int64) (i : Nat) : zb (-x) i = (zb x i ^^ (decide (i < 64) && decide (∃ j, j < i ∧ zb x j = true))) := by
  unfold zb
  rw [Int64.toBitVec_neg, BitVec.getLsbD_neg]
/-- the lowest bit alone -/
theorem zb_low (x : Int64) (i : Nat) : zb (x &&& -x) i = (zb x i && !decide (∃ j, j < i ∧ zb x j = true)) := by
  rw [zb_and, zb_neg]
  rcases Nat.lt_or_ge i 64 with h | h
  · cases zb x i <;> simp [h]
  · rw [zb_ge h]; rfl
/-- S comes before T: it has the first one in which they differ -/
def Lex (S T : Nat → Bool) : Prop := ∃ d, S d = true ∧ T d = false ∧ ∀ i, i < d → S i = T i
theorem lex_neg {S T : Nat → Bool} (U : Nat → Bool) (h : Lex S T) : Lex S U ∨ Lex U T := by
  obtain ⟨d, h1, h2, h3⟩ := h
  by_cases hx : ∃ e, e < d ∧ U e ≠ S e
  · obtain ⟨e, ⟨h4, h5⟩, h6⟩ := pk_least (fun e => e < d ∧ U e ≠ S e) hx
    have h7 : ∀ i, i < e → U i = S i := fun i hi => Classical.byContradiction fun hn => h6 i hi ⟨by omega, hn⟩
    cases hs : S e with
    | true =>
      have hu : U e = false := by rw [hs] at h5; cases hq : U e with
        | true => exact absurd hq h5
        | false => rfl
      exact Or.inl ⟨e, hs, hu, fun i hi => (h7 i hi).symm⟩
    | false =>
      have hu : U e = true := by rw [hs] at h5; cases hq : U e with
        | true => rfl
        | false => exact absurd hq h5
      exact Or.inr ⟨e, hu, by rw [← h3 e h4]; exact hs, fun i hi => by rw [h7 i hi]; exact h3 i (by omega)⟩
  · have h7 : ∀ i, i < d → U i = S i := fun i hi => Classical.byContradiction fun hn => hx ⟨i, hi, hn⟩
    cases hu : U d with
    | true => exact Or.inr ⟨d, hu, h2, fun i hi => by rw [h7 i hi]; exact h3 i hi⟩
    | false => exact Or.inl ⟨d, h1, hu, fun i hi => (h7 i hi).symm⟩
theorem lex_irr {S : Nat → Bool} (h : Lex S S) : False := by
  obtain ⟨d, h1, h2, -⟩ := h
  rw [h1] at h2; cases h2
theorem lex_asym {S T : Nat → Bool} (h : Lex S T) (h' : Lex T S) : False := by
  obtain ⟨d, h1, h2, h3⟩ := h
  obtain ⟨e, g1, g2, g3⟩ := h'
  rcases Nat.lt_trichotomy d e with q | q | q
  · rw [← g3 d q] at h1; rw [h1] at h2; cases h2
  · subst q; rw [g1] at h2; cases h2
  · rw [h3 e q] at g2; rw [g1] at g2; cases g2
theorem lex_sup {S T Y : Nat → Bool} (h : Lex S T) (hy : ∀ i, S i = true → Y i = true) : Lex Y T := by
  rcases lex_neg Y h with h1 | h1
  · obtain ⟨d, a, b, -⟩ := h1
    rw [hy d a] at b; cases b
  · exact h1
theorem lex_congr {S S' T T' : Nat → Bool} (hs : ∀ i, S i = S' i) (ht : ∀ i, T i = T' i) (h : Lex S T) : Lex S' T' := by
  obtain ⟨d, h1, h2, h3⟩ := h
  exact ⟨d, by rw [← hs]; exact h1, by rw [← ht]; exact h2, fun i hi => by rw [← hs, ← ht]; exact h3 i hi⟩
theorem lex_tot {S T : Nat → Bool} (h1 : ¬ Lex S T) (h2 : ¬ Lex T S) : ∀ i, S i = T i := by
  intro i
  exact Classical.byContradiction fun hn => by
    obtain ⟨e, h3, h4⟩ := pk_least (fun e => S e ≠ T e) ⟨i, hn⟩
    have h5 : ∀ j, j < e → S j = T j := fun j hj => Classical.byContradiction fun hq => h4 j hj hq
    cases hs : S e with
    | true =>
      have ht : T e = false := by rw [hs] at h3; cases hq : T e with
        | true => exact absurd hq.symm h3
        | false => rfl
      exact h1 ⟨e, hs, ht, h5⟩
    | false =>
      have ht : T e = true := by rw [hs] at h3; cases hq : T e with
        | true => rfl
        | false => exact absurd hq.symm h3
      exact h2 ⟨e, ht, hs, fun j hj => (h5 j hj).symm⟩
/-- 'the first one in which they differ', as the code asks it -/
theorem lex_code (x y : Int64) : x &&& ((x ^^^ y) &&& -(x ^^^ y)) = 0 ↔ ¬ Lex (zb x) (zb y) := by
  rw [zb_eq0]
  constructor
  · rintro h ⟨d, h1, h2, h3⟩
    have h4 := h d
    rw [zb_and, zb_low, zb_xor, h1, h2] at h4
    have h5 : decide (∃ j, j < d ∧ zb (x ^^^ y) j = true) = false := by
      rw [decide_eq_false_iff_not]
      rintro ⟨j, hj, hx⟩
      rw [zb_xor, h3 j hj] at hx; simp at hx
    rw [h5] at h4; simp at h4
  · intro h i
    rw [Bool.eq_false_iff]
    intro h1
    rw [zb_and, zb_low, zb_xor] at h1
    simp only [Bool.and_eq_true, Bool.not_eq_true', decide_eq_false_iff_not] at h1
    obtain ⟨h2, h3, h4⟩ := h1
    refine h ⟨i, h2, ?_, ?_⟩
    · rw [h2] at h3; simpa using h3
    · intro j hj
      refine Classical.byContradiction fun hn => h4 ⟨j, hj, ?_⟩
      rw [zb_xor]; simpa using hn
/-- the sum of the weights of a set, of what lies below n -/
def sw (w : Nat → Nat) (S : Nat → Bool) : Nat → Nat
  | 0 => 0
  | n + 1 => sw w S n + (if S n = true then w n else 0)
def su (S : Nat → Bool) (i : Nat) (b : Bool) : Nat → Bool := fun k => if k = i then b else S k
theorem su_s (S : Nat → Bool) (i : Nat) (b : Bool) : su S i b i = b := by simp [su]
theorem su_n (S : Nat → Bool) {i k : Nat} (b : Bool) (h : k ≠ i) : su S i b k = S k := by simp [su, h]
theorem sw_congr {w : Nat → Nat} {S T : Nat → Bool} {n : Nat} (h : ∀ i, i < n → S i = T i) : sw w S n = sw w T n := by
  induction n with
  | zero => rfl
  | succ n ih => rw [sw, sw, ih (fun i hi => h i (by omega)), h n (by omega)]
theorem sw_su {w : Nat → Nat} {S : Nat → Bool} {i : Nat} {b : Bool} {n : Nat} (hi : i < n) : sw w (su S i b) n + (if S i = true then w i else 0) = sw w S n + (if b = true then w i else 0) := by
  induction n with
  | zero => omega
  | succ n ih =>
    rw [sw, sw]
    by_cases h : i = n
    · subst h
      rw [su_s, sw_congr (S := su S i b) (T := S) (fun j hj => su_n S b (by omega))]
      omega
    · rw [su_n S b (show n ≠ i by omega)]
      have := ih (by omega)
      omega
theorem sw_mono {w : Nat → Nat} {S T : Nat → Bool} {n : Nat} (h : ∀ i, i < n → S i = true → T i = true) : sw w S n ≤ sw w T n := by
  induction n with
  | zero => exact Nat.le_refl _
  | succ n ih =>
    rw [sw, sw]
    have h1 := ih (fun i hi => h i (by omega))
    have h2 := h n (by omega)
    cases hs : S n with
    | true => rw [h2 hs]; simp; omega
    | false => simp; omega
theorem sw_one {w : Nat → Nat} {S T : Nat → Bool} {n i : Nat} (h : ∀ i, i < n → S i = true → T i = true) (hi : i < n) (h1 : S i = false) (h2 : T i = true) : sw w S n + w i ≤ sw w T n := by
  have h3 := sw_su (w := w) (S := S) (i := i) (b := true) hi
  rw [h1] at h3
  have h4 : sw w (su S i true) n ≤ sw w T n := sw_mono (fun j hj hs => by
    by_cases hq : j = i
    · subst hq; exact h2
    · rw [su_n S true hq] at hs; exact h j hj hs)
  simp at h3
  omega
theorem sw_le {w : Nat → Nat} {S : Nat → Bool} {n m : Nat} (h : ∀ i, i < n → w i ≤ m) : sw w S n ≤ n * m := by
  induction n with
  | zero => exact Nat.zero_le _
  | succ n ih =>
    rw [sw, Nat.succ_mul]
    have h1 := ih (fun i hi => h i (by omega))
    have h2 := h n (by omega)
    split <;> omega
end
section
/-! the search for the least cover, over numbers alone -/
/-- S serves all places of O -/
def Cov (c : Nat) (pl : Nat → Int64) (O : Int64) (S : Nat → Bool) : Prop := ∀ q, zb O q = true → ∃ i, i < c ∧ S i = true ∧ zb (pl i) q = true
def Sub (c : Nat) (S : Nat → Bool) (F : Int64) : Prop := ∀ i, S i = true → i < c ∧ zb F i = true
def Bet (a : Nat) (S : Nat → Bool) (b : Nat) (T : Nat → Bool) : Prop := a < b ∨ (a = b ∧ Lex S T)
theorem bet_neg {a b : Nat} {S T : Nat → Bool} (e : Nat) (U : Nat → Bool) (h : Bet a S b T) : Bet a S e U ∨ Bet e U b T := by
  rcases Nat.lt_trichotomy a e with q | q | q
  · exact Or.inl (Or.inl q)
  · rcases h with h | ⟨h, g⟩
    · exact Or.inr (Or.inl (by omega))
    · rcases lex_neg U g with g | g
      · exact Or.inl (Or.inr ⟨q, g⟩)
      · exact Or.inr (Or.inr ⟨by omega, g⟩)
  · rcases h with h | ⟨h, -⟩
    · exact Or.inr (Or.inl (by omega))
    · exact Or.inr (Or.inl (by omega))
/-- no X comes before b, b2 isn't behind b: no X comes before b2 -/
theorem bet_tr {a b b2 : Nat} {S T T2 : Nat → Bool} (h1 : ¬ Bet a S b T) (h2 : ¬ Bet b T b2 T2) : ¬ Bet a S b2 T2 := fun h => by
  rcases bet_neg b T h with h | h
  · exact h1 h
  · exact h2 h
theorem bet_irr {a : Nat} {S : Nat → Bool} (h : Bet a S a S) : False := by
  rcases h with h | ⟨-, h⟩
  · omega
  · exact lex_irr h
theorem bet_asym {a b : Nat} {S T : Nat → Bool} (h : Bet a S b T) (h' : Bet b T a S) : False := by
  rcases h with h | ⟨h, g⟩ <;> rcases h' with h' | ⟨h', g'⟩
  · omega
  · omega
  · omega
  · exact lex_asym g g'
theorem bet_congr {a b : Nat} {S S' T T' : Nat → Bool} (hs : ∀ i, S i = S' i) (ht : ∀ i, T i = T' i) (h : Bet a S b T) : Bet a S' b T' := by
  rcases h with h | ⟨h, g⟩
  · exact Or.inl h
  · exact Or.inr ⟨h, lex_congr hs ht g⟩
def un (K : Int64) (S : Nat → Bool) : Nat → Bool := fun i => zb K i || S i
-- the code's functions
def m_bet (w : Int32) (x : Int64) (bw : Int32) (bs : Int64) : Bool := decide (w < bw) || (decide (w = bw) && !decide (x &&& ((x ^^^ bs) &&& -(x ^^^ bs)) = 0))
def m_domP (pl : Nat → Int64) (w : Nat → Int32) (i : Nat) (O U : Int64) (j : Nat) : Bool := (zb U j && decide ((pl i &&& O) &&& (pl j ^^^ (-1)) = 0)) && (decide (w j < w i) || (decide (w j = w i) && decide (j < i)))
def m_dom (c : Nat) (pl : Nat → Int64) (w : Nat → Int32) (i : Nat) (O U : Int64) : Bool := decide (pl i &&& O = 0) || exn c (m_domP pl w i O U)
def m_wdf (c : Nat) (pl : Nat → Int64) (w : Nat → Int32) (O F : Int64) : Nat → Int64 → Int64 := fun i u => if (zb F i && m_dom c pl w i O u) = true then u &&& (zo i ^^^ (-1)) else u
def m_wd (c : Nat) (pl : Nat → Int64) (w : Nat → Int32) (O F : Int64) : Int64 := fo (m_wdf c pl w O F) c F
def m_lightf (w : Nat → Int32) (some : Int64) : Nat → Int32 → Int32 := fun i b => if zb some i = true then (if w i < b then w i else b) else b
def m_light (c : Nat) (w : Nat → Int32) (some : Int64) : Int32 := fo (m_lightf w some) c 1000000
def m_wtcf (c : Nat) (w : Nat → Int32) (sv : Nat → Int64) (O U : Int64) : Nat → Int64 × Int32 → Int64 × Int32 := fun q a => if (zb O q && decide ((sv q &&& U) &&& a.1 = 0)) = true then (a.1 ||| (sv q &&& U), a.2 + m_light c w (sv q &&& U)) else a
def m_wtc (c : Nat) (w : Nat → Int32) (sv : Nat → Int64) (O U : Int64) : Int64 × Int32 := fo (m_wtcf c w sv O U) 32 (0, 0)
def m_fewf (pop : Int64 → Int32) (sv : Nat → Int64) (O U : Int64) : Nat → Int64 → Int64 := fun q f => if (zb O q && decide (pop (sv q &&& U) < pop f)) = true then sv q &&& U else f
def m_few (pop : Int64 → Int32) (sv : Nat → Int64) (O U : Int64) : Int64 := fo (m_fewf pop sv O U) 32 U
def m_keep (W : Int32) (K : Int64) (b : Int32 × Int64) : Int32 × Int64 := if m_bet W K b.1 b.2 = true then (W, K) else b
def m_loopf (pl : Nat → Int64) (w : Nat → Int32) (T : Int64) (O : Int64) (W : Int32) (K : Int64) (rec : Int64 → Int64 → Int32 → Int64 → Int32 × Int64 → Int32 × Int64) : Nat → Int64 × (Int32 × Int64) → Int64 × (Int32 × Int64) := fun i a => if zb T i = true then (a.1 &&& (zo i ^^^ (-1)), rec (O &&& (pl i ^^^ (-1))) (a.1 &&& (zo i ^^^ (-1))) (W + w i) (K ||| zo i) a.2) else a
def m_ext (pop : Int64 → Int32) (c : Nat) (pl : Nat → Int64) (w : Nat → Int32) (sv : Nat → Int64) : Nat → Int64 → Int64 → Int32 → Int64 → Int32 × Int64 → Int32 × Int64
  | 0, O, _, W, K, b => if O = 0 then m_keep W K b else b
  | d + 1, O, F, W, K, b => if O = 0 then m_keep W K b else
      if m_bet (W + (m_wtc c w sv O (m_wd c pl w O F)).2) (K ||| m_wd c pl w O F) b.1 b.2 = true then
        (fo (m_loopf pl w (m_few pop sv O (m_wd c pl w O F)) O W K (m_ext pop c pl w sv d)) c (m_wd c pl w O F, b)).2
      else b
theorem m_bet_iff {a b : Nat} (ha : a < 2 ^ 31) (hb : b < 2 ^ 31) (x y : Int64) : m_bet (nI a) x (nI b) y = true ↔ Bet a (zb x) b (zb y) := by
  have h := lex_code x y
  unfold m_bet Bet
  simp only [Bool.or_eq_true, Bool.and_eq_true, decide_eq_true_eq, Bool.not_eq_true', decide_eq_false_iff_not, nI_ltI ha hb, nI_eq ha hb, h, Classical.not_not]
-- candidates that need not be looked at
theorem dom_step {c : Nat} {pl : Nat → Int64} {w : Nat → Int32} {wn : Nat → Nat} (hc : c ≤ 63) (hw : ∀ i, i < c → w i = nI (wn i) ∧ 0 < wn i ∧ wn i < 2 ^ 20) {O U K : Int64} {W i : Nat} {S : Nat → Bool} (hi : i < c) (hU : ∀ k, zb U k = true → zb K k = false) (hd : m_dom c pl w i O U = true) (hS : Sub c S U) (hO : Cov c pl O S) :
    ∃ S', Sub c S' (U &&& (zo i ^^^ (-1))) ∧ Cov c pl O S' ∧ ¬ Bet (W + sw wn S c) (un K S) (W + sw wn S' c) (un K S') := by
  have hi64 : i < 64 := by omega
  cases hsi : S i with
  | false =>
    refine ⟨S, fun k hk => ⟨(hS k hk).1, ?_⟩, hO, bet_irr⟩
    rw [zb_del _ hi64, (hS k hk).2]
    have : k ≠ i := fun h => by rw [h, hsi] at hk; cases hk
    simp [this]
  | true =>
    have hsw := sw_su (w := wn) (S := S) (i := i) (b := false) hi
    rw [hsi] at hsw
    simp at hsw
    have hwi := (hw i hi).2.1
    unfold m_dom at hd
    rw [Bool.or_eq_true, decide_eq_true_eq, exn_iff] at hd
    rcases hd with hd | ⟨j, hj, hd⟩
    · refine ⟨su S i false, fun k hk => ?_, fun q hq => ?_, ?_⟩
      · by_cases h : k = i
        · subst h; rw [su_s] at hk; cases hk
        · rw [su_n S false h] at hk
          refine ⟨(hS k hk).1, ?_⟩
          rw [zb_del _ hi64, (hS k hk).2]; simp [h]
      · obtain ⟨k, h1, h2, h3⟩ := hO q hq
        by_cases h : k = i
        · subst h
          have := zb_eq0.mp hd q
          rw [zb_and, h3, hq] at this; cases this
        · exact ⟨k, h1, by rw [su_n S false h]; exact h2, h3⟩
      · rintro (h | ⟨h, -⟩) <;> omega
    · simp only [m_domP, Bool.and_eq_true, Bool.or_eq_true, decide_eq_true_eq] at hd
      obtain ⟨⟨hUj, hown⟩, hlt⟩ := hd
      rw [(hw i hi).1, (hw j hj).1] at hlt
      have bi := (hw i hi).2.2
      have bj := (hw j hj).2.2
      rw [nI_ltI (by omega) (by omega), nI_eq (by omega) (by omega)] at hlt
      have hji : j ≠ i := fun h => by subst h; omega
      have hsw2 := sw_su (w := wn) (S := su S i false) (i := j) (b := true) hj
      rw [su_n S false hji] at hsw2
      simp at hsw2
      refine ⟨su (su S i false) j true, fun k hk => ?_, fun q hq => ?_, ?_⟩
      · by_cases h : k = j
        · subst h
          refine ⟨hj, ?_⟩
          rw [zb_del _ hi64, hUj]; simp [hji]
        · rw [su_n _ true h] at hk
          by_cases h2 : k = i
          · subst h2; rw [su_s] at hk; cases hk
          · rw [su_n S false h2] at hk
            refine ⟨(hS k hk).1, ?_⟩
            rw [zb_del _ hi64, (hS k hk).2]; simp [h2]
      · obtain ⟨k, h1, h2, h3⟩ := hO q hq
        by_cases h : k = i
        · subst h
          refine ⟨j, hj, su_s _ _ _, ?_⟩
          have := zb_eq0.mp hown q
          rw [zb_diff, zb_and, h3, hq] at this
          simpa using this
        · refine ⟨k, h1, ?_, h3⟩
          by_cases h4 : k = j
          · subst h4; exact su_s _ _ _
          · rw [su_n _ true h4, su_n S false h]; exact h2
      · intro hb
        cases hsj : S j with
        | true =>
          rw [hsj] at hsw2
          simp at hsw2
          rcases hb with h | ⟨h, -⟩ <;> omega
        | false =>
          rw [hsj] at hsw2
          simp at hsw2
          rcases hlt with hlt | ⟨hlt, hlt2⟩
          · rcases hb with h | ⟨h, -⟩ <;> omega
          · rcases hb with h | ⟨-, h⟩
            · omega
            · refine lex_asym h ⟨j, ?_, ?_, fun k hk => ?_⟩
              · show (zb K j || su (su S i false) j true j) = true
                rw [su_s]; simp
              · show (zb K j || S j) = false
                rw [hU j hUj, hsj]; rfl
              · show (zb K k || su (su S i false) j true k) = (zb K k || S k)
                rw [su_n _ true (by omega), su_n S false (by omega)]
theorem wd_ok {c : Nat} {pl : Nat → Int64} {w : Nat → Int32} {wn : Nat → Nat} (hc : c ≤ 63) (hw : ∀ i, i < c → w i = nI (wn i) ∧ 0 < wn i ∧ wn i < 2 ^ 20) {O F K : Int64} {W : Nat} (hF : ∀ k, zb F k = true → k < c ∧ zb K k = false) :
    ∀ n, n ≤ c → (∀ k, zb (fo (m_wdf c pl w O F) n F) k = true → zb F k = true) ∧ (∀ k, n ≤ k → zb (fo (m_wdf c pl w O F) n F) k = zb F k) ∧ (∀ k, k < n → zb (fo (m_wdf c pl w O F) n F) k = true → ¬ pl k &&& O = 0) ∧
      ∀ S, Sub c S F → Cov c pl O S → ∃ S', Sub c S' (fo (m_wdf c pl w O F) n F) ∧ Cov c pl O S' ∧ ¬ Bet (W + sw wn S c) (un K S) (W + sw wn S' c) (un K S') := by
  intro n
  induction n with
  | zero => exact fun _ => ⟨fun k h => h, fun k _ => rfl, fun k h => absurd h (by omega), fun S h1 h2 => ⟨S, h1, h2, bet_irr⟩⟩
  | succ n ih =>
    intro hn
    obtain ⟨i1, i2, i3, i4⟩ := ih (by omega)
    have hn64 : n < 64 := by omega
    rw [fo_s]
    generalize hu : fo (m_wdf c pl w O F) n F = u at i1 i2 i3 i4 ⊢
    unfold m_wdf
    by_cases hd : (zb F n && m_dom c pl w n O u) = true
    · rw [if_pos hd]
      rw [Bool.and_eq_true] at hd
      refine ⟨fun k h => ?_, fun k h => ?_, fun k h h' => ?_, fun S h1 h2 => ?_⟩
      · rw [zb_del _ hn64, Bool.and_eq_true] at h; exact i1 k h.1
      · rw [zb_del _ hn64, i2 k (by omega)]; simp; omega
      · rw [zb_del _ hn64, Bool.and_eq_true] at h'
        by_cases hk : k = n
        · subst hk; simp at h'
        · exact i3 k (by omega) h'.1
      · obtain ⟨S1, a1, a2, a3⟩ := i4 S h1 h2
        obtain ⟨S2, b1, b2, b3⟩ := dom_step (W := W) (K := K) hc hw (by omega) (fun k hk => (hF k (i1 k hk)).2) hd.2 a1 a2
        exact ⟨S2, b1, b2, bet_tr a3 b3⟩
    · rw [if_neg hd]
      refine ⟨i1, fun k h => i2 k (by omega), fun k h h' => ?_, i4⟩
      by_cases hk : k = n
      · subst hk
        intro h0
        apply hd
        rw [Bool.and_eq_true]
        refine ⟨i1 k h', ?_⟩
        unfold m_dom
        rw [decide_eq_true h0]; rfl
      · exact i3 k (by omega) h'
-- a bound on what is to come
theorem light_ok {c : Nat} {w : Nat → Int32} {wn : Nat → Nat} (hw : ∀ i, i < c → w i = nI (wn i) ∧ 0 < wn i ∧ wn i < 2 ^ 20) (some : Int64) : ∀ n, n ≤ c → ∃ g : Nat, fo (m_lightf w some) n 1000000 = nI g ∧ g ≤ 1000000 ∧ ∀ i, i < n → zb some i = true → g ≤ wn i := by
  intro n
  induction n with
  | zero => exact fun _ => ⟨1000000, rfl, Nat.le_refl _, fun i h => absurd h (by omega)⟩
  | succ n ih =>
    intro hn
    obtain ⟨g, h1, h2, h3⟩ := ih (by omega)
    obtain ⟨e1, e2, e3⟩ := hw n (by omega)
    rw [fo_s, h1]
    unfold m_lightf
    by_cases hb : zb some n = true
    · rw [if_pos hb, e1]
      by_cases hl : wn n < g
      · rw [if_pos ((nI_ltI (by omega) (by omega)).mpr hl)]
        refine ⟨wn n, rfl, by omega, fun i hi hz => ?_⟩
        by_cases hk : i = n
        · subst hk; exact Nat.le_refl _
        · have := h3 i (by omega) hz; omega
      · rw [if_neg (fun h => hl ((nI_ltI (by omega) (by omega)).mp h))]
        refine ⟨g, rfl, h2, fun i hi hz => ?_⟩
        by_cases hk : i = n
        · subst hk; omega
        · exact h3 i (by omega) hz
    · rw [if_neg hb]
      refine ⟨g, rfl, h2, fun i hi hz => ?_⟩
      by_cases hk : i = n
      · subst hk; exact absurd hz hb
      · exact h3 i (by omega) hz
theorem wtc_ok {c : Nat} {pl : Nat → Int64} {w : Nat → Int32} {wn : Nat → Nat} {sv : Nat → Int64} (hw : ∀ i, i < c → w i = nI (wn i) ∧ 0 < wn i ∧ wn i < 2 ^ 20) (hsv : ∀ q i, q < 32 → zb (sv q) i = (decide (i < c) && zb (pl i) q)) (O U : Int64) :
    ∀ n, n ≤ 32 → ∃ g : Nat, (fo (m_wtcf c w sv O U) n (0, 0)).2 = nI g ∧ g ≤ n * 1000000 ∧ ∀ S, Sub c S U → Cov c pl O S → g ≤ sw wn (fun i => S i && zb (fo (m_wtcf c w sv O U) n (0, 0)).1 i) c := by
  intro n
  induction n with
  | zero => exact fun _ => ⟨0, rfl, Nat.zero_le _, fun _ _ _ => Nat.zero_le _⟩
  | succ n ih =>
    intro hn
    obtain ⟨g, h1, h2, h3⟩ := ih (by omega)
    rw [fo_s]
    generalize fo (m_wtcf c w sv O U) n (0, 0) = a at h1 h3 ⊢
    unfold m_wtcf
    by_cases hd : (zb O n && decide ((sv n &&& U) &&& a.1 = 0)) = true
    · rw [if_pos hd]
      rw [Bool.and_eq_true, decide_eq_true_eq] at hd
      obtain ⟨gl, l1, l2, l3⟩ := light_ok hw (sv n &&& U) c (Nat.le_refl c)
      refine ⟨g + gl, ?_, by rw [Nat.succ_mul]; exact Nat.add_le_add h2 l2, fun S hS hO => ?_⟩
      · show a.2 + m_light c w (sv n &&& U) = _
        unfold m_light
        rw [h1, l1, nI_add]
      · obtain ⟨i, hi, hsi, hp⟩ := hO n hd.1
        have hin : zb (sv n &&& U) i = true := by
          rw [zb_and, hsv n i (by omega), hp, (hS i hsi).2]; simp [hi]
        have hnot : zb a.1 i = false := by
          have := zb_eq0.mp hd.2 i
          rw [zb_and, hin] at this; simpa using this
        have q1 := h3 S hS hO
        have q2 := l3 i hi hin
        have q3 := sw_one (w := wn) (S := fun i => S i && zb a.1 i) (T := fun i => S i && zb (a.1 ||| (sv n &&& U)) i) (n := c) (i := i) (fun j hj hs => by
          simp only [Bool.and_eq_true] at hs ⊢
          exact ⟨hs.1, by rw [zb_or, hs.2]; rfl⟩) hi (by simp [hnot]) (by simp only [hsi, zb_or, hin]; simp)
        show g + gl ≤ sw wn (fun i => S i && zb (a.1 ||| (sv n &&& U)) i) c
        omega
    · rw [if_neg hd]
      exact ⟨g, h1, Nat.le_trans h2 (Nat.mul_le_mul_right _ (Nat.le_succ n)), h3⟩
theorem few_ok (pop : Int64 → Int32) (sv : Nat → Int64) (O U : Int64) : ∀ n, fo (m_fewf pop sv O U) n U = U ∨ ∃ q, q < n ∧ zb O q = true ∧ fo (m_fewf pop sv O U) n U = sv q &&& U := by
  intro n
  induction n with
  | zero => exact Or.inl rfl
  | succ n ih =>
    rw [fo_s]
    generalize fo (m_fewf pop sv O U) n U = f at ih ⊢
    unfold m_fewf
    by_cases hd : (zb O n && decide (pop (sv n &&& U) < pop f)) = true
    · rw [if_pos hd]
      rw [Bool.and_eq_true] at hd
      exact Or.inr ⟨n, by omega, hd.1, rfl⟩
    · rw [if_neg hd]
      rcases ih with h | ⟨q, a, b, h⟩
      · exact Or.inl h
      · exact Or.inr ⟨q, by omega, b, h⟩
/-- how many places are open -/
def pcn (O : Int64) : Nat := sw (fun _ => 1) (zb O) 32
theorem pcn_lt {O P : Int64} {q : Nat} (hq : q < 32) (h1 : zb O q = true) (h2 : zb P q = true) : pcn (O &&& (P ^^^ (-1))) + 1 ≤ pcn O :=
  sw_one (w := fun _ => 1) (i := q) (fun j _ hs => by rw [zb_diff, Bool.and_eq_true] at hs; exact hs.1) hq (by rw [zb_diff, h1, h2]; rfl) h1
theorem pcn_0 {O : Int64} (h32 : ∀ q, zb O q = true → q < 32) (h : pcn O = 0) : O = 0 := by
  refine Classical.byContradiction fun hn => ?_
  obtain ⟨q, hq⟩ := zb_ne0.mp hn
  have := pcn_lt (h32 q hq) hq hq
  omega
/-- what a part of the search answers: the best of what was and of all covers of O by candidates of F, beside K -/
def ExtR (c : Nat) (pl : Nat → Int64) (wn : Nat → Nat) (O F : Int64) (W : Nat) (K : Int64) (bw : Nat) (bs : Int64) (bw' : Nat) (bs' : Int64) : Prop :=
  bw' ≤ 1000000 ∧ ((bw' = bw ∧ bs' = bs) ∨ ∃ S, Sub c S F ∧ Cov c pl O S ∧ bw' = W + sw wn S c ∧ ∀ i, zb bs' i = un K S i) ∧ (∀ S, Sub c S F → Cov c pl O S → ¬ Bet (W + sw wn S c) (un K S) bw' (zb bs')) ∧ ¬ Bet bw (zb bs) bw' (zb bs')
theorem keep_ok {c : Nat} {pl : Nat → Int64} {wn : Nat → Nat} (hp : ∀ i, i < c → 0 < wn i) (F K : Int64) {W bw : Nat} (bs : Int64) (hW : W < 2 ^ 30) (hbw : bw ≤ 1000000) : ∃ bw' bs', m_keep (nI W) K (nI bw, bs) = (nI bw', bs') ∧ ExtR c pl wn 0 F W K bw bs bw' bs' := by
  have hiff := m_bet_iff (a := W) (b := bw) (by omega) (by omega) K bs
  have hle : ∀ S : Nat → Bool, ¬ Bet (W + sw wn S c) (un K S) W (zb K) ∨ True := fun S => Or.inr trivial
  have key : ∀ S : Nat → Bool, Sub c S F → ¬ Bet (W + sw wn S c) (un K S) W (zb K) := by
    intro S hS hb
    by_cases hz : ∃ i, S i = true
    · obtain ⟨i, hi⟩ := hz
      have hic := (hS i hi).1
      have := sw_one (w := wn) (S := fun _ => false) (T := S) (n := c) (i := i) (fun j _ h => by cases h) hic rfl hi
      have := hp i hic
      rcases hb with h | ⟨h, -⟩ <;> omega
    · rcases hb with h | ⟨-, h⟩
      · omega
      · refine lex_irr (S := zb K) (lex_congr (fun i => ?_) (fun _ => rfl) h)
        show (zb K i || S i) = zb K i
        cases hs : S i with
        | true => exact absurd ⟨i, hs⟩ hz
        | false => simp
  unfold m_keep
  by_cases hb : m_bet (nI W) K (nI bw) bs = true
  · rw [if_pos hb]
    have hB := hiff.mp hb
    refine ⟨W, K, rfl, by rcases hB with h | ⟨h, -⟩ <;> omega, Or.inr ⟨fun _ => false, fun i h => by (cases h), fun q h => (by rw [zb_0] at h; cases h), ?_, fun i => ?_⟩, fun S hS _ => key S hS, fun h => bet_asym hB h⟩
    · have : sw wn (fun _ => false) c = 0 := by
        have := sw_le (w := fun _ => 0) (S := fun _ => false) (n := c) (m := 0) (fun _ _ => Nat.le_refl 0)
        clear this
        clear hb hB key hle hiff
        induction c with
        | zero => rfl
        | succ n ih => rw [sw, ih (fun i hi => hp i (by omega))]; rfl
      omega
    · show zb K i = (zb K i || false)
      simp
  · rw [if_neg hb]
    exact ⟨bw, bs, rfl, hbw, Or.inl ⟨rfl, rfl⟩, fun S hS _ => bet_tr (key S hS) (fun h => hb (hiff.mpr h)), bet_irr⟩
set_option maxHeartbeats 1000000 in
theorem ext_ok (pop : Int64 → Int32) {c : Nat} {pl : Nat → Int64} {w : Nat → Int32} {wn : Nat → Nat} {sv : Nat → Int64} (hc : c ≤ 63) (hw : ∀ i, i < c → w i = nI (wn i) ∧ 0 < wn i ∧ wn i < 2 ^ 20) (hsv : ∀ q i, q < 32 → zb (sv q) i = (decide (i < c) && zb (pl i) q)) :
    ∀ (d : Nat) (O F : Int64) (W : Nat) (K : Int64) (bw : Nat) (bs : Int64), (∀ q, zb O q = true → q < 32) → pcn O ≤ d → (∀ k, zb F k = true → k < c ∧ zb K k = false) → W + sw wn (zb F) c < 2 ^ 28 → bw ≤ 1000000 →
      ∃ bw' bs', m_ext pop c pl w sv d O F (nI W) K (nI bw, bs) = (nI bw', bs') ∧ ExtR c pl wn O F W K bw bs bw' bs' := by
  have hp : ∀ i, i < c → 0 < wn i := fun i hi => (hw i hi).2.1
  intro d
  induction d with
  | zero =>
    intro O F W K bw bs h32 hd hF hW hbw
    have h0 := pcn_0 h32 (by omega)
    subst h0
    rw [m_ext, if_pos rfl]
    exact keep_ok hp F K bs (by omega) hbw
  | succ d ih =>
    intro O F W K bw bs h32 hd hF hW hbw
    rw [m_ext]
    by_cases hO : O = 0
    · subst hO
      rw [if_pos rfl]
      exact keep_ok hp F K bs (by omega) hbw
    rw [if_neg hO]
    obtain ⟨u1, -, u3, u4⟩ := wd_ok (pl := pl) (O := O) (F := F) (K := K) (W := W) hc hw hF c (Nat.le_refl c)
    change ∀ k, zb (m_wd c pl w O F) k = true → zb F k = true at u1
    change ∀ k, k < c → zb (m_wd c pl w O F) k = true → ¬ pl k &&& O = 0 at u3
    change ∀ S, Sub c S F → Cov c pl O S → ∃ S', Sub c S' (m_wd c pl w O F) ∧ Cov c pl O S' ∧ ¬ Bet (W + sw wn S c) (un K S) (W + sw wn S' c) (un K S') at u4
    generalize m_wd c pl w O F = U at u1 u3 u4 ⊢
    obtain ⟨g, g1, g2, g3⟩ := wtc_ok (pl := pl) hw hsv O U 32 (Nat.le_refl 32)
    change (m_wtc c w sv O U).2 = nI g at g1
    have hlb : ∀ S, Sub c S U → Cov c pl O S → g ≤ sw wn S c := fun S h1 h2 => Nat.le_trans (g3 S h1 h2) (sw_mono (fun i _ h => by
      rw [Bool.and_eq_true] at h; exact h.1))
    have hUF : ∀ S, Sub c S U → Sub c S F := fun S h i hi => ⟨(h i hi).1, u1 i (h i hi).2⟩
    have hst := m_bet_iff (a := W + g) (b := bw) (by omega) (by omega) (K ||| U) bs
    rw [g1, nI_add]
    by_cases hb : m_bet (nI (W + g)) (K ||| U) (nI bw) bs = true
    · rw [if_pos hb]
      -- the loop
      have hT := few_ok pop sv O U 32
      change m_few pop sv O U = U ∨ ∃ q, q < 32 ∧ zb O q = true ∧ m_few pop sv O U = sv q &&& U at hT
      generalize m_few pop sv O U = T at hT ⊢
      have hTU : ∀ i, zb T i = true → zb U i = true := fun i hi => by
        rcases hT with h | ⟨q, -, -, h⟩
        · rw [h] at hi; exact hi
        · rw [h, zb_and, Bool.and_eq_true] at hi; exact hi.2
      have hmeet : ∀ S, Sub c S U → Cov c pl O S → ∃ i, i < c ∧ S i = true ∧ zb T i = true := fun S h1 h2 => by
        rcases hT with h | ⟨q, hq, hz, h⟩
        · obtain ⟨q, hq⟩ := zb_ne0.mp hO
          obtain ⟨i, a1, a2, -⟩ := h2 q hq
          exact ⟨i, a1, a2, by rw [h]; exact (h1 i a2).2⟩
        · obtain ⟨i, a1, a2, a3⟩ := h2 q hz
          refine ⟨i, a1, a2, ?_⟩
          rw [h, zb_and, hsv q i hq, a3, (h1 i a2).2]; simp [a1]
      have loop : ∀ n, n ≤ c → ∃ (v : Int64) (bw' : Nat) (bs' : Int64), fo (m_loopf pl w T O (nI W) K (m_ext pop c pl w sv d)) n (U, (nI bw, bs)) = (v, (nI bw', bs')) ∧ (∀ k, zb v k = (zb U k && !(zb T k && decide (k < n)))) ∧ bw' ≤ 1000000 ∧ ((bw' = bw ∧ bs' = bs) ∨ ∃ S, Sub c S F ∧ Cov c pl O S ∧ bw' = W + sw wn S c ∧ ∀ i, zb bs' i = un K S i) ∧ (∀ S, Sub c S U → Cov c pl O S → (∃ k, k < n ∧ zb T k = true ∧ S k = true) → ¬ Bet (W + sw wn S c) (un K S) bw' (zb bs')) ∧ ¬ Bet bw (zb bs) bw' (zb bs') := by
        intro n
        induction n with
        | zero =>
          intro _
          refine ⟨U, bw, bs, rfl, fun k => by simp, hbw, Or.inl ⟨rfl, rfl⟩, fun S _ _ ⟨k, hk, _⟩ => absurd hk (by omega), bet_irr⟩
        | succ n ihn =>
          intro hn
          obtain ⟨v, bw1, bs1, e1, e2, e3, e4, e5, e6⟩ := ihn (by omega)
          have hn64 : n < 64 := by omega
          rw [fo_s, e1]
          unfold m_loopf
          by_cases ht : zb T n = true
          · rw [if_pos ht]
            have hUn := hTU n ht
            have hKn := hF n (u1 n hUn)
            have hv : ∀ k, zb (v &&& (zo n ^^^ (-1))) k = (zb U k && !(zb T k && decide (k < n + 1))) := fun k => by
              rw [zb_del _ hn64, e2]
              by_cases hk : k = n
              · subst hk; rw [ht]; simp
              · have : decide (k < n + 1) = decide (k < n) := by simp; omega
                rw [this]; simp [hk]
            obtain ⟨wn1, wn2, wn3⟩ := hw n (by omega)
            have hvF : ∀ k, zb (v &&& (zo n ^^^ (-1))) k = true → zb F k = true ∧ k ≠ n := fun k hk => by
              have hk' := hk
              rw [hv, Bool.and_eq_true] at hk
              refine ⟨u1 k hk.1, fun h => ?_⟩
              subst h
              rw [zb_del _ hn64] at hk'; simp at hk'
            obtain ⟨qq, hqq⟩ := zb_ne0.mp (u3 n (by omega) hUn)
            rw [zb_and, Bool.and_eq_true] at hqq
            have hsum := sw_one (w := wn) (S := zb (v &&& (zo n ^^^ (-1)))) (T := zb F) (n := c) (i := n) (fun j _ hj => (hvF j hj).1) (by omega) (by rw [zb_del _ hn64]; simp) (u1 n hUn)
            obtain ⟨bw2, bs2, x1, x2, x3, x4, x5⟩ := ih (O &&& (pl n ^^^ (-1))) (v &&& (zo n ^^^ (-1))) (W + wn n) (K ||| zo n) bw1 bs1
              (fun q hq => by rw [zb_diff, Bool.and_eq_true] at hq; exact h32 q hq.1)
              (by have := pcn_lt (h32 qq hqq.2) hqq.2 hqq.1; omega)
              (fun k hk => by
                obtain ⟨a1, a2⟩ := hvF k hk
                refine ⟨(hF k a1).1, ?_⟩
                rw [zb_add _ hn64, (hF k a1).2]; simp [a2])
              (by omega) e3
            -- a cover of the rest, with n, is a cover
            have up : ∀ S, Sub c S (v &&& (zo n ^^^ (-1))) → Cov c pl (O &&& (pl n ^^^ (-1))) S → Sub c (su S n true) F ∧ Cov c pl O (su S n true) ∧ sw wn (su S n true) c = sw wn S c + wn n ∧ ∀ i, un (K ||| zo n) S i = un K (su S n true) i := by
              intro S h1 h2
              have hsn : S n = false := by
                cases h : S n with
                | true => exact absurd rfl (hvF n (h1 n h).2).2
                | false => rfl
              refine ⟨fun i hi => ?_, fun q hq => ?_, ?_, fun i => ?_⟩
              · by_cases h : i = n
                · subst h; exact ⟨by omega, u1 i hUn⟩
                · rw [su_n S true h] at hi; exact ⟨(h1 i hi).1, (hvF i (h1 i hi).2).1⟩
              · cases hz : zb (pl n) q with
                | true => exact ⟨n, by omega, su_s _ _ _, hz⟩
                | false =>
                  obtain ⟨i, a1, a2, a3⟩ := h2 q (by rw [zb_diff, hq, hz]; rfl)
                  refine ⟨i, a1, ?_, a3⟩
                  by_cases h : i = n
                  · subst h; exact su_s _ _ _
                  · rw [su_n S true h]; exact a2
              · have := sw_su (w := wn) (S := S) (i := n) (b := true) (n := c) (by omega)
                rw [hsn] at this
                simpa using this
              · show (zb (K ||| zo n) i || S i) = (zb K i || su S n true i)
                rw [zb_add _ hn64]
                by_cases h : i = n
                · subst h; rw [su_s]; simp
                · rw [su_n S true h]; simp [h]
            refine ⟨v &&& (zo n ^^^ (-1)), bw2, bs2, ?_, hv, x2, ?_, ?_, bet_tr e6 x5⟩
            · show (v &&& (zo n ^^^ (-1)), m_ext pop c pl w sv d (O &&& (pl n ^^^ (-1))) (v &&& (zo n ^^^ (-1))) (nI W + w n) (K ||| zo n) (nI bw1, bs1)) = _
              rw [wn1, nI_add, x1]
            · rcases x3 with ⟨a1, a2⟩ | ⟨S, a1, a2, a3, a4⟩
              · rw [a1, a2]; exact e4
              · obtain ⟨b1, b2, b3, b4⟩ := up S a1 a2
                exact Or.inr ⟨su S n true, b1, b2, by omega, fun i => by rw [a4 i]; exact b4 i⟩
            · rintro S h1 h2 ⟨k, hk, hkT, hkS⟩
              by_cases hold : ∃ k, k < n ∧ zb T k = true ∧ S k = true
              · exact bet_tr (e5 S h1 h2 hold) x5
              · have hkn : k = n := by
                  rcases Nat.lt_or_ge k n with h | h
                  · exact absurd ⟨k, h, hkT, hkS⟩ hold
                  · omega
                subst hkn
                have s1 : Sub c (su S k false) (v &&& (zo k ^^^ (-1))) := fun i hi => by
                  by_cases h : i = k
                  · subst h; rw [su_s] at hi; cases hi
                  · rw [su_n S false h] at hi
                    refine ⟨(h1 i hi).1, ?_⟩
                    rw [hv, (h1 i hi).2]
                    have : (zb T i && decide (i < k + 1)) = false := by
                      rw [Bool.eq_false_iff]
                      intro hq
                      rw [Bool.and_eq_true, decide_eq_true_eq] at hq
                      exact hold ⟨i, by omega, hq.1, hi⟩
                    rw [this]; rfl
                have s2 : Cov c pl (O &&& (pl k ^^^ (-1))) (su S k false) := fun q hq => by
                  rw [zb_diff, Bool.and_eq_true, Bool.not_eq_true'] at hq
                  obtain ⟨i, a1, a2, a3⟩ := h2 q hq.1
                  refine ⟨i, a1, ?_, a3⟩
                  have : i ≠ k := fun h => by subst h; rw [hq.2] at a3; cases a3
                  rw [su_n S false this]; exact a2
                have s3 := x4 (su S k false) s1 s2
                obtain ⟨-, -, t3, t4⟩ := up (su S k false) s1 s2
                have t5 : ∀ i, su (su S k false) k true i = S i := fun i => by
                  by_cases h : i = k
                  · subst h; rw [su_s, hkS]
                  · rw [su_n _ true h, su_n S false h]
                rw [sw_congr (S := su (su S k false) k true) (T := S) (fun i _ => t5 i)] at t3
                intro hB
                apply s3
                rw [show W + wn k + sw wn (su S k false) c = W + sw wn S c by omega]
                refine bet_congr (fun i => ?_) (fun _ => rfl) hB
                rw [t4 i]
                show (zb K i || S i) = (zb K i || su (su S k false) k true i)
                rw [t5]
          · rw [if_neg ht]
            refine ⟨v, bw1, bs1, rfl, fun k => ?_, e3, e4, ?_, e6⟩
            · rw [e2]
              by_cases hk : k = n
              · subst hk
                have : zb T k = false := by simpa using ht
                rw [this]; rfl
              · have : decide (k < n + 1) = decide (k < n) := by simp; omega
                rw [this]
            · rintro S h1 h2 ⟨k, hk, hkT, hkS⟩
              refine e5 S h1 h2 ⟨k, ?_, hkT, hkS⟩
              have : k ≠ n := fun h => by subst h; exact ht hkT
              omega
      obtain ⟨v, bw', bs', e1, -, e3, e4, e5, e6⟩ := loop c (Nat.le_refl c)
      rw [e1]
      refine ⟨bw', bs', rfl, e3, e4, fun S h1 h2 => ?_, e6⟩
      obtain ⟨S', a1, a2, a3⟩ := u4 S h1 h2
      obtain ⟨k, k1, k2, k3⟩ := hmeet S' a1 a2
      exact bet_tr a3 (e5 S' a1 a2 ⟨k, k1, k3, k2⟩)
    · rw [if_neg hb]
      refine ⟨bw, bs, rfl, hbw, Or.inl ⟨rfl, rfl⟩, fun S h1 h2 => ?_, bet_irr⟩
      obtain ⟨S', a1, a2, a3⟩ := u4 S h1 h2
      refine bet_tr a3 (fun hB => hb (hst.mpr ?_))
      have h3 := hlb S' a1 a2
      rcases Nat.lt_or_ge (W + g) bw with hl | hl
      · exact Or.inl hl
      · rcases hB with h | ⟨h, hx⟩
        · omega
        · refine Or.inr ⟨by omega, lex_sup hx (fun i hi => ?_)⟩
          have hi : (zb K i || S' i) = true := hi
          rw [zb_or]
          rw [Bool.or_eq_true] at hi ⊢
          rcases hi with hi | hi
          · exact Or.inl hi
          · exact Or.inr (a1 i hi).2
end
section
/-! there are never more than 54 candidates -/
def iset (k : Nat) : Nat := if k = 0 then 43690 else if k = 1 then 52428 else if k = 2 then 61680 else 65280
/-- the inputs for which product p is 1, a bit each -/
def W4 (p : Nat) : Nat := fo (fun k w => if p / 3 ^ k % 3 = 1 then w &&& iset k else if p / 3 ^ k % 3 = 2 then w &&& (65535 ^^^ iset k) else w) 4 65535
/-- product p without its part of input k -/
def wop (p k : Nat) : Nat := p - p / 3 ^ k % 3 * 3 ^ k
def cnt (P : Nat → Bool) (n : Nat) : Nat := sw (fun _ => 1) P n
/-- p is free of z, and with any part left out it isn't -/
def pr4 (z p : Nat) : Bool := decide (W4 p &&& z = 0) && !exn 4 (fun k => !decide (wop p k = p) && decide (W4 (wop p k) &&& z = 0))
def W3 (q : Nat) : Nat := W4 q % 256
def pr3 (z q : Nat) : Bool := decide (W3 q &&& z = 0) && !exn 3 (fun k => !decide (wop q k = q) && decide (W3 (wop q k) &&& z = 0))
set_option maxRecDepth 100000 in
theorem pr3_6 : ∀ z, z < 256 → cnt (pr3 z) 27 ≤ 6 := by decide +kernel
theorem sw_add (w : Nat) (P : Nat → Bool) (a b : Nat) : sw (fun _ => w) P (a + b) = sw (fun _ => w) P a + sw (fun _ => w) (fun i => P (a + i)) b := by
  induction b with
  | zero => rfl
  | succ b ih => rw [← Nat.add_assoc, sw, ih, sw, Nat.add_assoc]
theorem land_split (x z : Nat) : x &&& z = 0 ↔ (x / 256 &&& z / 256 = 0) ∧ (x % 256 &&& z % 256 = 0) := by
  have h1 : (x &&& z) / 256 = x / 256 &&& z / 256 := Nat.and_div_two_pow (n := 8)
  have h2 : (x &&& z) % 256 = x % 256 &&& z % 256 := Nat.and_mod_two_pow (n := 8)
  rw [← h1, ← h2]
  omega
theorem land_or0 (x a b : Nat) : x &&& (a ||| b) = 0 ↔ (x &&& a = 0) ∧ (x &&& b = 0) := by
  rw [Nat.and_or_distrib_left]
  constructor
  · intro h
    constructor
    · apply Nat.eq_of_testBit_eq; intro i
      have := congrArg (fun z => Nat.testBit z i) h
      simp only [Nat.testBit_or, Nat.zero_testBit, Bool.or_eq_false_iff] at this ⊢
      exact this.1
    · apply Nat.eq_of_testBit_eq; intro i
      have := congrArg (fun z => Nat.testBit z i) h
      simp only [Nat.testBit_or, Nat.zero_testBit, Bool.or_eq_false_iff] at this ⊢
      exact this.2
  · rintro ⟨h1, h2⟩; rw [h1, h2]; rfl
theorem w4_0 : ∀ q, q < 27 → W4 q / 256 = W3 q ∧ W4 q % 256 = W3 q := by decide +kernel
theorem w4_1 : ∀ q, q < 27 → W4 (27 + q) / 256 = W3 q ∧ W4 (27 + q) % 256 = 0 := by decide +kernel
theorem w4_2 : ∀ q, q < 27 → W4 (54 + q) / 256 = 0 ∧ W4 (54 + q) % 256 = W3 q := by decide +kernel
theorem wop_3 : ∀ q, q < 27 → ∀ k, k < 3 → wop q k < 27 ∧ wop (27 + q) k = 27 + wop q k ∧ wop (54 + q) k = 54 + wop q k := by decide +kernel
theorem pr4_to3 (z zz a : Nat) (ha : a = 0 ∨ a = 27 ∨ a = 54) (hz : ∀ q, q < 27 → (W4 (a + q) &&& z = 0 ↔ W3 q &&& zz = 0)) : cnt (fun q => pr4 z (a + q)) 27 ≤ cnt (pr3 zz) 27 := by
  refine sw_mono (fun q hq h => ?_)
  unfold pr4 at h
  unfold pr3
  rw [Bool.and_eq_true, decide_eq_true_eq, Bool.not_eq_true'] at h ⊢
  refine ⟨(hz q hq).mp h.1, exn_false (fun k hk => ?_)⟩
  have h2 : ¬ (exn 4 (fun k => !decide (wop (a + q) k = a + q) && decide (W4 (wop (a + q) k) &&& z = 0)) = true) := by rw [h.2]; simp
  rw [exn_iff] at h2
  obtain ⟨b1, b2, b3⟩ := wop_3 q hq k hk
  have e : wop (a + q) k = a + wop q k := by
    rcases ha with rfl | rfl | rfl
    · simp
    · exact b2
    · exact b3
  rw [Bool.eq_false_iff]
  intro h3
  apply h2
  refine ⟨k, by omega, ?_⟩
  rw [Bool.and_eq_true, Bool.not_eq_true', decide_eq_false_iff_not, decide_eq_true_eq] at h3 ⊢
  rw [e]
  exact ⟨by omega, (hz _ b1).mpr h3.2⟩
theorem pr4_18 {z : Nat} (hz : z < 65536) : cnt (pr4 z) 81 ≤ 18 := by
  have h0 := pr4_to3 z (z / 256 ||| z % 256) 0 (Or.inl rfl) (fun q hq => by
    rw [Nat.zero_add, land_split, (w4_0 q hq).1, (w4_0 q hq).2, land_or0])
  have h1 := pr4_to3 z (z / 256) 27 (Or.inr (Or.inl rfl)) (fun q hq => by
    rw [land_split, (w4_1 q hq).1, (w4_1 q hq).2]; simp)
  have h2 := pr4_to3 z (z % 256) 54 (Or.inr (Or.inr rfl)) (fun q hq => by
    rw [land_split, (w4_2 q hq).1, (w4_2 q hq).2]; simp)
  have m0 := pr3_6 (z / 256 ||| z % 256) (Nat.or_lt_two_pow (n := 8) (by omega) (by omega))
  have m1 := pr3_6 (z / 256) (by omega)
  have m2 := pr3_6 (z % 256) (by omega)
  have s1 : sw (fun _ => 1) (pr4 z) 81 = _ := sw_add 1 (pr4 z) 54 27
  have s2 : sw (fun _ => 1) (pr4 z) 54 = _ := sw_add 1 (pr4 z) 27 27
  unfold cnt at *
  simp only [Nat.zero_add] at h0
  have e : (fun q => pr4 z q) = pr4 z := rfl
  rw [e] at h0
  omega
end
section
/-! the number of bits of a long, as the JDK counts them -/
def mk8 (b : Nat) : Nat → Nat
  | 0 => 0
  | n + 1 => mk8 b n * 256 + b
def bs1 (m x : Nat) : Nat := x - (x / 2 &&& m)
def bs2 (m x : Nat) : Nat := (x &&& m) + (x / 4 &&& m)
def bs3 (m x : Nat) : Nat := (x + x / 16) &&& m
theorem and_bytes (a c : Nat) {b d : Nat} (hb : b < 256) (hd : d < 256) : (a * 256 + b) &&& (c * 256 + d) = (a &&& c) * 256 + (b &&& d) := by
  have h1 : ((a * 256 + b) &&& (c * 256 + d)) / 256 = (a * 256 + b) / 256 &&& (c * 256 + d) / 256 := Nat.and_div_two_pow (n := 8)
  have h2 : ((a * 256 + b) &&& (c * 256 + d)) % 256 = (a * 256 + b) % 256 &&& (c * 256 + d) % 256 := Nat.and_mod_two_pow (n := 8)
  rw [show (a * 256 + b) / 256 = a by omega, show (c * 256 + d) / 256 = c by omega] at h1
  rw [show (a * 256 + b) % 256 = b by omega, show (c * 256 + d) % 256 = d by omega] at h2
  omega
theorem by1 : ∀ lo, lo < 256 → ∀ h, h < 2 → ((h * 128 + lo / 2) &&& 85) = (lo / 2 &&& 85) := by decide +kernel
theorem by2 : ∀ b, b < 256 → ∀ h, h < 4 → ((h * 64 + b / 4) &&& 51) = (b / 4 &&& 51) := by decide +kernel
def popc (b : Nat) : Nat := cnt (Nat.testBit b) 8
theorem by3 : ∀ lo, lo < 256 → bs1 85 lo < 256 ∧ bs2 51 (bs1 85 lo) % 16 ≤ 4 ∧ bs2 51 (bs1 85 lo) / 16 ≤ 4 ∧ bs2 51 (bs1 85 lo) % 16 + bs2 51 (bs1 85 lo) / 16 = popc lo := by decide +kernel
theorem popc_8 : ∀ b, b < 256 → popc b ≤ 8 := by decide +kernel
theorem bs1_step (n hi : Nat) {lo : Nat} (hlo : lo < 256) : bs1 (mk8 85 (n + 1)) (hi * 256 + lo) = bs1 (mk8 85 n) hi * 256 + bs1 85 lo := by
  unfold bs1
  rw [mk8, show (hi * 256 + lo) / 2 = hi / 2 * 256 + (hi % 2 * 128 + lo / 2) by omega, and_bytes _ _ (by omega) (by omega), by1 lo hlo (hi % 2) (by omega)]
  have h1 : hi / 2 &&& mk8 85 n ≤ hi / 2 := Nat.and_le_left
  have h2 : lo / 2 &&& 85 ≤ lo / 2 := Nat.and_le_left
  omega
theorem bs2_step (n a : Nat) {b : Nat} (hb : b < 256) : bs2 (mk8 51 (n + 1)) (a * 256 + b) = bs2 (mk8 51 n) a * 256 + bs2 51 b := by
  unfold bs2
  rw [mk8, show (a * 256 + b) / 4 = a / 4 * 256 + (a % 4 * 64 + b / 4) by omega, and_bytes _ _ hb (by omega), and_bytes _ _ (by omega) (by omega), by2 b hb (a % 4) (by omega)]
  omega
theorem bs3_step (n : Nat) {a b : Nat} (ha : a % 16 ≤ 4) (hb : b % 16 ≤ 4) (hb2 : b / 16 ≤ 4) : bs3 (mk8 15 (n + 1)) (a * 256 + b) = bs3 (mk8 15 n) a * 256 + (b % 16 + b / 16) := by
  unfold bs3
  rw [mk8, show a * 256 + b + (a * 256 + b) / 16 = (a + a / 16) * 256 + (b + a % 16 * 16 + b / 16) by omega, and_bytes _ _ (by omega) (by omega)]
  have h : (b + a % 16 * 16 + b / 16) &&& 15 = (b + a % 16 * 16 + b / 16) % 16 := Nat.and_two_pow_sub_one_eq_mod _ 4
  rw [h]
  omega
def rp8 : Nat → Nat → Nat
  | 0, _ => 0
  | n + 1, x => rp8 n (x / 256) * 256 + popc (x % 256)
theorem bs_t16 (n x : Nat) : bs2 (mk8 51 n) (bs1 (mk8 85 n) x) % 16 ≤ 4 := by
  cases n with
  | zero => simp [mk8, bs2, bs1]
  | succ n =>
    have e : x = x / 256 * 256 + x % 256 := by omega
    rw [e, bs1_step n _ (by omega), bs2_step n _ (by3 (x % 256) (by omega)).1]
    have := (by3 (x % 256) (by omega)).2.1
    omega
theorem bs_all : ∀ n x, bs3 (mk8 15 n) (bs2 (mk8 51 n) (bs1 (mk8 85 n) x)) = rp8 n x := by
  intro n
  induction n with
  | zero => intro x; simp [mk8, bs3, rp8]
  | succ n ih =>
    intro x
    have e : x = x / 256 * 256 + x % 256 := by omega
    obtain ⟨h1, h2, h3, h4⟩ := by3 (x % 256) (by omega)
    rw [rp8, ← ih (x / 256), ← h4]
    conv => lhs; rw [e]
    rw [bs1_step n _ (by omega), bs2_step n _ h1, bs3_step n (bs_t16 n _) h2 h3]
theorem cnt_byte (x m : Nat) : cnt (Nat.testBit x) (8 + m) = popc (x % 256) + cnt (Nat.testBit (x / 256)) m := by
  unfold cnt popc cnt
  rw [sw_add]
  have h1 : sw (fun _ => 1) (Nat.testBit x) 8 = sw (fun _ => 1) (Nat.testBit (x % 256)) 8 := sw_congr (fun i hi => by
    rw [show (256 : Nat) = 2 ^ 8 from rfl, Nat.testBit_mod_two_pow]; simp [hi])
  have h2 : sw (fun _ => 1) (fun i => Nat.testBit x (8 + i)) m = sw (fun _ => 1) (Nat.testBit (x / 256)) m := sw_congr (fun i hi => by
    rw [show (256 : Nat) = 2 ^ 8 from rfl, Nat.testBit_div_two_pow, Nat.add_comm])
  rw [h1, h2]
def bs4 (y : Nat) : Nat := y + y / 256
def bs5 (y : Nat) : Nat := y + y / 65536
def bs6 (y : Nat) : Nat := y + y / 4294967296
theorem dv {x d : Nat} (z : Nat) (h : x < d) : (x + d * z) / d = z := by
  rw [Nat.add_mul_div_left x z (Nat.lt_of_le_of_lt (Nat.zero_le _) h), Nat.div_eq_of_lt h, Nat.zero_add]
theorem pop_nat {x : Nat} (hx : x < 2 ^ 64) : rp8 8 x < 2 ^ 60 ∧ bs6 (bs5 (bs4 (rp8 8 x))) % 128 = cnt (Nat.testBit x) 64 := by
  have c0 := popc_8 (x % 256) (by omega)
  have c1 := popc_8 (x / 256 % 256) (by omega)
  have c2 := popc_8 (x / 256 / 256 % 256) (by omega)
  have c3 := popc_8 (x / 256 / 256 / 256 % 256) (by omega)
  have c4 := popc_8 (x / 256 / 256 / 256 / 256 % 256) (by omega)
  have c5 := popc_8 (x / 256 / 256 / 256 / 256 / 256 % 256) (by omega)
  have c6 := popc_8 (x / 256 / 256 / 256 / 256 / 256 / 256 % 256) (by omega)
  have c7 := popc_8 (x / 256 / 256 / 256 / 256 / 256 / 256 / 256 % 256) (by omega)
  have e : cnt (Nat.testBit x) 64 = popc (x % 256) + (popc (x / 256 % 256) + (popc (x / 256 / 256 % 256) + (popc (x / 256 / 256 / 256 % 256) + (popc (x / 256 / 256 / 256 / 256 % 256) + (popc (x / 256 / 256 / 256 / 256 / 256 % 256) + (popc (x / 256 / 256 / 256 / 256 / 256 / 256 % 256) + (popc (x / 256 / 256 / 256 / 256 / 256 / 256 / 256 % 256) + 0))))))) := by
    rw [show (64 : Nat) = 8 + 56 from rfl, cnt_byte, show (56 : Nat) = 8 + 48 from rfl, cnt_byte, show (48 : Nat) = 8 + 40 from rfl, cnt_byte, show (40 : Nat) = 8 + 32 from rfl, cnt_byte, show (32 : Nat) = 8 + 24 from rfl, cnt_byte, show (24 : Nat) = 8 + 16 from rfl, cnt_byte, show (16 : Nat) = 8 + 8 from rfl, cnt_byte, show cnt (Nat.testBit (x / 256 / 256 / 256 / 256 / 256 / 256 / 256)) 8 = cnt (Nat.testBit (x / 256 / 256 / 256 / 256 / 256 / 256 / 256)) (8 + 0) from rfl, cnt_byte]
    rfl
  rw [e]
  simp only [rp8, bs4, bs5, bs6]
  generalize popc (x % 256) = a0 at *
  generalize popc (x / 256 % 256) = a1 at *
  generalize popc (x / 256 / 256 % 256) = a2 at *
  generalize popc (x / 256 / 256 / 256 % 256) = a3 at *
  generalize popc (x / 256 / 256 / 256 / 256 % 256) = a4 at *
  generalize popc (x / 256 / 256 / 256 / 256 / 256 % 256) = a5 at *
  generalize popc (x / 256 / 256 / 256 / 256 / 256 / 256 % 256) = a6 at *
  generalize popc (x / 256 / 256 / 256 / 256 / 256 / 256 / 256 % 256) = a7 at *
  clear e hx
  have ey : ((((((((0 * 256 + a7) * 256 + a6) * 256 + a5) * 256 + a4) * 256 + a3) * 256 + a2) * 256 + a1) * 256 + a0) = a0 + 256 * (a1 + 256 * (a2 + 256 * (a3 + 256 * (a4 + 256 * (a5 + 256 * (a6 + 256 * a7)))))) := by omega
  rw [ey]
  clear ey
  have q1 : (a0 + 256 * (a1 + 256 * (a2 + 256 * (a3 + 256 * (a4 + 256 * (a5 + 256 * (a6 + 256 * a7))))))) / 256 = a1 + 256 * (a2 + 256 * (a3 + 256 * (a4 + 256 * (a5 + 256 * (a6 + 256 * a7))))) := dv _ (by omega)
  rw [q1]
  clear q1
  have q2 : a0 + 256 * (a1 + 256 * (a2 + 256 * (a3 + 256 * (a4 + 256 * (a5 + 256 * (a6 + 256 * a7)))))) + (a1 + 256 * (a2 + 256 * (a3 + 256 * (a4 + 256 * (a5 + 256 * (a6 + 256 * a7)))))) = (a0 + a1 + 256 * (a1 + a2)) + 65536 * ((a2 + a3) + 256 * (a3 + a4) + 65536 * ((a4 + a5) + 256 * (a5 + a6) + 65536 * ((a6 + a7) + 256 * a7))) := by omega
  rw [q2]
  clear q2
  have q3 : ((a0 + a1 + 256 * (a1 + a2)) + 65536 * ((a2 + a3) + 256 * (a3 + a4) + 65536 * ((a4 + a5) + 256 * (a5 + a6) + 65536 * ((a6 + a7) + 256 * a7)))) / 65536 = (a2 + a3) + 256 * (a3 + a4) + 65536 * ((a4 + a5) + 256 * (a5 + a6) + 65536 * ((a6 + a7) + 256 * a7)) := dv _ (by omega)
  rw [q3]
  clear q3
  have q4 : (a0 + a1 + 256 * (a1 + a2)) + 65536 * ((a2 + a3) + 256 * (a3 + a4) + 65536 * ((a4 + a5) + 256 * (a5 + a6) + 65536 * ((a6 + a7) + 256 * a7))) + ((a2 + a3) + 256 * (a3 + a4) + 65536 * ((a4 + a5) + 256 * (a5 + a6) + 65536 * ((a6 + a7) + 256 * a7))) = (a0 + a1 + a2 + a3 + 256 * (a1 + a2 + a3 + a4) + 65536 * (a2 + a3 + a4 + a5 + 256 * (a3 + a4 + a5 + a6))) + 4294967296 * ((a4 + a5 + a6 + a7) + 256 * (a5 + a6 + a7) + 65536 * (a6 + a7 + 256 * a7)) := by omega
  rw [q4]
  clear q4
  have q5 : ((a0 + a1 + a2 + a3 + 256 * (a1 + a2 + a3 + a4) + 65536 * (a2 + a3 + a4 + a5 + 256 * (a3 + a4 + a5 + a6))) + 4294967296 * ((a4 + a5 + a6 + a7) + 256 * (a5 + a6 + a7) + 65536 * (a6 + a7 + 256 * a7))) / 4294967296 = (a4 + a5 + a6 + a7) + 256 * (a5 + a6 + a7) + 65536 * (a6 + a7 + 256 * a7) := dv _ (by omega)
  rw [q5]
  clear q5
  have q6 : (a0 + a1 + a2 + a3 + 256 * (a1 + a2 + a3 + a4) + 65536 * (a2 + a3 + a4 + a5 + 256 * (a3 + a4 + a5 + a6))) + 4294967296 * ((a4 + a5 + a6 + a7) + 256 * (a5 + a6 + a7) + 65536 * (a6 + a7 + 256 * a7)) + ((a4 + a5 + a6 + a7) + 256 * (a5 + a6 + a7) + 65536 * (a6 + a7 + 256 * a7)) = (a0 + a1 + a2 + a3 + a4 + a5 + a6 + a7) + 128 * (2 * (a1 + a2 + a3 + a4) + 512 * (a2 + a3 + a4 + a5 + 256 * (a3 + a4 + a5 + a6)) + 33554432 * ((a4 + a5 + a6 + a7) + 256 * (a5 + a6 + a7) + 65536 * (a6 + a7 + 256 * a7)) + 2 * (a5 + a6 + a7) + 512 * (a6 + a7 + 256 * a7)) := by omega
  constructor
  · clear q6
    omega
  · have h8 : a0 + a1 + a2 + a3 + a4 + a5 + a6 + a7 < 128 := by clear q6; omega
    refine Eq.trans (congrArg (fun z => z % 128) q6) (Eq.trans (Nat.add_mul_mod_self_left _ _ _) (Eq.trans (Nat.mod_eq_of_lt h8) ?_))
    clear q6 h8
    omega
end
section
/-! what the class's methods answer, as functions of numbers -/
def mc_covf (pla : Nat → Int64) (sm : Int64) : Nat → Int64 → Int64 := fun i a => if zb sm i = true then a ||| pla i else a
def mc_svf (pla : Nat → Int64) (q : Nat) : Nat → Int64 → Int64 := fun i a => a ||| (((pla i >>> ((nI q).toInt64 &&& 63)) &&& 1) <<< ((nI i).toInt64 &&& 63))
def mc_outf (w : Int32) (zer : Nat → Int32) : Nat → Int32 → Int32 := fun o a => if w &&& zer o = 0 then a ||| (1 <<< (nI o &&& 31)) else a
def mc_plf (f : Nat → Int32) (wh : Int32) : Nat → Int64 → Int64 := fun o a => if (wh >>> (nI o &&& 31)) &&& 1 = 0 then a else a ||| ((f o).toInt64 <<< ((nI (16 * o)).toInt64 &&& 63))
def mc_wideP (oop : Nat → Int32) (p k : Nat) : Bool := !decide (wop p k = p) && decide (oop (wop p k) = oop p)
def mc_isc (oop : Nat → Int32) (p : Nat) : Bool := !decide (oop p = 0) && !exn 4 (mc_wideP oop p)
/-- an unsigned shift to the right -/
def ush (x : Int64) (k : Int32) : Int64 := (x.toUInt64 >>> (k.toInt64.toUInt64 &&& Int64.toUInt64 63)).toInt64
theorem wb_uc : ∀ k, k < 64 → ((nI k).toInt64.toUInt64 &&& Int64.toUInt64 63) = UInt64.ofNat k := by decide +kernel
def nL (x : Int64) : Nat := x.toBitVec.toNat
theorem nL_lt (x : Int64) : nL x < 2 ^ 64 := x.toBitVec.isLt
theorem nL_zb (x : Int64) (i : Nat) : zb x i = (nL x).testBit i := rfl
theorem nL_and (x y : Int64) : nL (x &&& y) = nL x &&& nL y := by simp [nL]
theorem nL_add (x y : Int64) : nL (x + y) = (nL x + nL y) % 2 ^ 64 := by simp [nL]
theorem nL_sub {x y : Int64} (h : nL y ≤ nL x) : nL (x - y) = nL x - nL y := by
  have h1 := nL_lt x
  have h2 := nL_lt y
  unfold nL at *
  rw [Int64.toBitVec_sub, BitVec.toNat_sub]
  omega
theorem nL_ush (x : Int64) {k : Nat} (hk : k < 64) : nL (ush x (nI k)) = nL x / 2 ^ k := by
  unfold nL ush
  rw [wb_uc k hk]
  have e : (UInt64.ofNat k).toNat = k := by simp [UInt64.toNat_ofNat]; omega
  simp [Nat.shiftRight_eq_div_pow, e, Nat.mod_eq_of_lt hk]
def mp1 (x : Int64) : Int64 := x - (ush x 1 &&& 6148914691236517205)
def mp2 (x : Int64) : Int64 := (x &&& 3689348814741910323) + (ush x 2 &&& 3689348814741910323)
def mp3 (x : Int64) : Int64 := (x + ush x 4) &&& 1085102592571150095
def mp4 (x : Int64) : Int64 := x + ush x 8
def mp5 (x : Int64) : Int64 := x + ush x 16
def mp6 (x : Int64) : Int64 := x + ush x 32
/-- Long.bitCount -/
def m_pop (x : Int64) : Int32 := (mp6 (mp5 (mp4 (mp3 (mp2 (mp1 x)))))).toInt32 &&& 127
theorem mk85 : nL 6148914691236517205 = mk8 85 8 := by decide +kernel
theorem mk51 : nL 3689348814741910323 = mk8 51 8 := by decide +kernel
theorem mk15 : nL 1085102592571150095 = mk8 15 8 := by decide +kernel
theorem m_pop_ok (x : Int64) : m_pop x = nI (cnt (zb x) 64) := by
  have hx := nL_lt x
  have h1 : nL (mp1 x) = bs1 (mk8 85 8) (nL x) := by
    have e : nL (ush x 1 &&& 6148914691236517205) = nL x / 2 &&& mk8 85 8 := by
      rw [nL_and, mk85, show (1 : Int32) = nI 1 from rfl, nL_ush x (by omega)]
    unfold mp1 bs1
    rw [nL_sub (by rw [e]; exact Nat.le_trans Nat.and_le_left (by omega)), e]
  have h2 : nL (mp2 (mp1 x)) = bs2 (mk8 51 8) (nL (mp1 x)) := by
    have hq := nL_lt (mp1 x)
    have b1 : nL (mp1 x) &&& mk8 51 8 ≤ mk8 51 8 := Nat.and_le_right
    have b2 : nL (mp1 x) / 4 &&& mk8 51 8 ≤ mk8 51 8 := Nat.and_le_right
    have b3 : mk8 51 8 < 2 ^ 62 := by decide +kernel
    unfold mp2 bs2
    rw [nL_add, nL_and, nL_and, mk51, show (2 : Int32) = nI 2 from rfl, nL_ush _ (by omega)]
    exact Nat.mod_eq_of_lt (by show _ + (_ / 4 &&& _) < _; omega)
  have h3 : nL (mp3 (mp2 (mp1 x))) = bs3 (mk8 15 8) (nL (mp2 (mp1 x))) := by
    have b3 : mk8 51 8 < 2 ^ 62 := by decide +kernel
    have b4 : nL (mp2 (mp1 x)) < 2 ^ 63 := by
      rw [h2]; unfold bs2
      have b1 : nL (mp1 x) &&& mk8 51 8 ≤ mk8 51 8 := Nat.and_le_right
      have b2 : nL (mp1 x) / 4 &&& mk8 51 8 ≤ mk8 51 8 := Nat.and_le_right
      omega
    unfold mp3 bs3
    rw [nL_and, nL_add, mk15, show (4 : Int32) = nI 4 from rfl, nL_ush _ (by omega)]
    rw [Nat.mod_eq_of_lt (by show _ + _ / 16 < _; omega)]
  have h4 : nL (mp3 (mp2 (mp1 x))) = rp8 8 (nL x) := by rw [h3, h2, h1, bs_all]
  obtain ⟨hb, hp⟩ := pop_nat hx
  generalize hy : mp3 (mp2 (mp1 x)) = y at h4
  have h5 : nL (mp4 y) = bs4 (nL y) := by
    unfold mp4 bs4
    rw [nL_add, show (8 : Int32) = nI 8 from rfl, nL_ush _ (by omega)]
    exact Nat.mod_eq_of_lt (by show _ + _ / 256 < _; omega)
  have h6 : nL (mp5 (mp4 y)) = bs5 (nL (mp4 y)) := by
    have : nL (mp4 y) < 2 ^ 61 := by rw [h5]; unfold bs4; omega
    unfold mp5 bs5
    rw [nL_add, show (16 : Int32) = nI 16 from rfl, nL_ush _ (by omega)]
    exact Nat.mod_eq_of_lt (by show _ + _ / 65536 < _; omega)
  have h7 : nL (mp6 (mp5 (mp4 y))) = bs6 (nL (mp5 (mp4 y))) := by
    have : nL (mp5 (mp4 y)) < 2 ^ 62 := by rw [h6, h5]; unfold bs5 bs4; omega
    unfold mp6 bs6
    rw [nL_add, show (32 : Int32) = nI 32 from rfl, nL_ush _ (by omega)]
    exact Nat.mod_eq_of_lt (by show _ + _ / 4294967296 < _; omega)
  have e : cnt (zb x) 64 = cnt (Nat.testBit (nL x)) 64 := rfl
  rw [e, ← hp, ← h4, ← h5, ← h6, ← h7]
  unfold m_pop
  rw [hy, pk_and _ 7 rfl]
  generalize mp6 (mp5 (mp4 y)) = z
  have ez : z.toInt32.toBitVec.toNat = nL z % 2 ^ 32 := by
    unfold nL
    rw [Int64.toBitVec_toInt32]
    simp [BitVec.signExtend_eq_setWidth_of_le]
  rw [ez]
  congr 1
  omega
def mc_lonf (pla : Nat → Int64) : Nat → Int64 × Int64 → Int64 × Int64 := fun i a => (a.1 ||| pla i, a.2 ||| (a.1 &&& pla i))
/-- the bits of a place that a candidate at product p serves -/
def mc_pla (one : Nat → Int32) (w ou : Int32) : Int64 := ((w.toInt64 <<< ((16 : Int32).toInt64 &&& 63)) ||| w.toInt64) &&& fo (mc_plf one ou) 2 0
def mc_lbf (bs : Int64) (siz : Nat → Int32) : Nat → (Nat → Int32) × Nat × Int32 → (Nat → Int32) × Nat × Int32 := fun i a => if zb bs i = true then (upd a.1 a.2.1 (nI i), a.2.1 + 1, a.2.2 + siz i) else a
def mc_wef (siz : Nat → Int32) : Nat → (Nat → Int32) → (Nat → Int32) := fun i f => upd f i (1000 + siz i)
def mc_sef (pla : Nat → Int64) (cn : Nat) : Nat → (Nat → Int64) → (Nat → Int64) := fun q f => vp_updL f q (fo (mc_svf pla q) cn 0)
def mc_thf (num : Nat → Int32) (fm : Int32) : Nat → Int64 → Int64 := fun i a => if num i < fm then a else a ||| zo i
def mc_th2f (pla : Nat → Int64) (due : Int64) (cn : Nat) : Nat → Int64 → Int64 := fun k a => if a &&& (zo (cn - 1 - k) ^^^ (-1)) = a then a else if decide (fo (mc_covf pla (a &&& (zo (cn - 1 - k) ^^^ (-1)))) cn 0 = due) = true then a &&& (zo (cn - 1 - k) ^^^ (-1)) else a
def mc_thin (num : Nat → Int32) (pla : Nat → Int64) (due : Int64) (cn : Nat) (fm : Int32) : Int32 := if decide (fo (mc_covf pla (fo (mc_thf num fm) cn 0)) cn 0 = due) = true then m_pop (fo (mc_th2f pla due cn) cn (fo (mc_thf num fm) cn 0)) else -1
theorem th_neg {cn k : Nat} (hc : cn ≤ 63) (hk : k ≤ cn) : nI (cn - k) - 1 < 0 ↔ cn = k := by
  rcases Nat.lt_or_ge k cn with h | h
  · have e : nI (cn - k) - 1 = nI (cn - 1 - k) := by
      rw [show cn - k = (cn - 1 - k) + 1 by omega, nI_pred]
    rw [e]
    constructor
    · intro h1; exact absurd h1 (nI_pos (by omega))
    · intro h1; omega
  · have : cn = k := by omega
    subst this
    rw [Nat.sub_self]
    exact ⟨fun _ => rfl, fun _ => by decide⟩
theorem th_idx {cn k : Nat} (hk : k < cn) : nI (cn - k) - 1 = nI (cn - 1 - k) := by
  rw [show cn - k = (cn - 1 - k) + 1 by omega, nI_pred]
def mc_oneP (out inp : Nat → Int32) (pkn : Nat → Nat) (oo xx : Int32) (k : Nat) : Bool := !decide ((out (pkn k) >>> (oo &&& 31)) &&& 1 = 0) && !decide ((inp (pkn k) >>> (xx &&& 31)) &&& 1 = 0)
theorem zb_tzn (x : Int64) {i : Nat} (h : i < 64) : ¬ x &&& zo i = 0 ↔ zb x i = true := by
  rw [zb_tz x h]; simp
end
section
/-! products as numbers -/
def tpow (j : Nat) : Nat := 3 ^ j
theorem tpow_pos (k : Nat) : 0 < tpow k := Nat.pow_pos (by decide)
theorem tpow_lt {k : Nat} (h : k < 4) : tpow k < 2 ^ 31 := by
  have : ∀ k, k < 4 → tpow k < 2 ^ 31 := by decide
  exact this k h
theorem tpow_81 {k : Nat} (h : k ≤ 4) : tpow k ≤ 81 := by
  have : ∀ k, k < 5 → tpow k ≤ 81 := by decide
  exact this k (by omega)
theorem div_lt {p d : Nat} (h : p < 81) : p / d < 2 ^ 31 := Nat.lt_of_le_of_lt (Nat.div_le_self p d) (by omega)
theorem wop_le (p k : Nat) : p / tpow k % 3 * tpow k ≤ p :=
  Nat.le_trans (Nat.mul_le_mul_right _ (Nat.mod_le _ _)) (Nat.div_mul_le_self p (tpow k))
theorem wop_le2 (p k : Nat) : wop p k ≤ p := Nat.sub_le _ _
def mc_dsf (pn : Nat) : Nat → Nat × Nat → Nat × Nat := fun k a => if pn / 3 ^ k % 3 = 1 then (a.1 &&& iset k, a.2 + 1) else if pn / 3 ^ k % 3 = 2 then (a.1 &&& (65535 ^^^ iset k), a.2 + 1) else a
theorem nI_and (a b : Nat) : nI a &&& nI b = nI (a &&& b) := by
  apply Int32.toBitVec_inj.1
  apply BitVec.eq_of_getLsbD_eq
  intro i hi
  show ((BitVec.ofNat 32 a) &&& (BitVec.ofNat 32 b)).getLsbD i = (BitVec.ofNat 32 (a &&& b)).getLsbD i
  simp [BitVec.getLsbD_ofNat, Nat.testBit_and, hi]
theorem nI_xor (a b : Nat) : nI a ^^^ nI b = nI (a ^^^ b) := by
  apply Int32.toBitVec_inj.1
  apply BitVec.eq_of_getLsbD_eq
  intro i hi
  show ((BitVec.ofNat 32 a) ^^^ (BitVec.ofNat 32 b)).getLsbD i = (BitVec.ofNat 32 (a ^^^ b)).getLsbD i
  simp [BitVec.getLsbD_ofNat, Nat.testBit_xor, hi]
theorem nI_or (a b : Nat) : nI a ||| nI b = nI (a ||| b) := by
  apply Int32.toBitVec_inj.1
  apply BitVec.eq_of_getLsbD_eq
  intro i hi
  show ((BitVec.ofNat 32 a) ||| (BitVec.ofNat 32 b)).getLsbD i = (BitVec.ofNat 32 (a ||| b)).getLsbD i
  simp [BitVec.getLsbD_ofNat, Nat.testBit_or, hi]
theorem land_cut {a : Nat} (h : a < 65536) (b : Nat) : a &&& (b ^^^ 4294967295) = a &&& (65535 ^^^ b) := by
  apply Nat.eq_of_testBit_eq
  intro i
  rw [Nat.testBit_and, Nat.testBit_and, Nat.testBit_xor, Nat.testBit_xor]
  rcases Nat.lt_or_ge i 16 with hi | hi
  · rw [show (4294967295 : Nat) = 2 ^ 32 - 1 from rfl, show (65535 : Nat) = 2 ^ 16 - 1 from rfl, Nat.testBit_two_pow_sub_one, Nat.testBit_two_pow_sub_one]
    have : decide (i < 32) = true := decide_eq_true (by omega)
    rw [this, decide_eq_true hi]
    cases Nat.testBit b i <;> rfl
  · rw [Nat.testBit_lt_two_pow (x := a) (i := i) (Nat.lt_of_lt_of_le h (show 65536 ≤ 2 ^ i from Nat.pow_le_pow_right (n := 2) (by decide) hi))]
    rfl
theorem ds_not {a : Nat} (h : a < 65536) (b : Nat) : nI a &&& (nI b ^^^ (-1)) = nI (a &&& (65535 ^^^ b)) := by
  rw [show (-1 : Int32) = nI 4294967295 from rfl, nI_xor, nI_and, land_cut h]
theorem ds_back {pn kv : Nat} (h1 : (fo (mc_dsf pn) kv (65535, 0)).1 < 65536) (h2 : (fo (mc_dsf pn) kv (65535, 0)).2 ≤ kv) : (fo (mc_dsf pn) (kv + 1) (65535, 0)).1 < 65536 ∧ (fo (mc_dsf pn) (kv + 1) (65535, 0)).2 ≤ kv + 1 := by
  rw [fo_s]
  generalize fo (mc_dsf pn) kv (65535, 0) = a at h1 h2 ⊢
  unfold mc_dsf
  have b1 : ∀ z, a.1 &&& z ≤ a.1 := fun z => Nat.and_le_left
  split
  · exact ⟨Nat.lt_of_le_of_lt (b1 _) h1, by show a.2 + 1 ≤ kv + 1; omega⟩
  · split
    · exact ⟨Nat.lt_of_le_of_lt (b1 _) h1, by show a.2 + 1 ≤ kv + 1; omega⟩
    · exact ⟨h1, by omega⟩
end
section
/-! filling the table of candidates, as functions of numbers -/
def mc_oof (pin zer : Nat → Int32) (mo : Nat) : Nat → (Nat → Int32) → (Nat → Int32) := fun p f => upd f p (fo (mc_outf (pin p) zer) mo 0)
abbrev FT : Type := Nat × (Nat → Int32) × (Nat → Int32) × (Nat → Int32) × (Nat → Int32) × (Nat → Int64)
def mc_filf (one pin psz oop : Nat → Int32) : Nat → FT → FT := fun p a => if mc_isc oop p = true then (a.1 + 1, upd a.2.1 a.1 (nI p), upd a.2.2.1 a.1 (oop p), upd a.2.2.2.1 a.1 (psz p), upd a.2.2.2.2.1 a.1 (pin p), vp_updL a.2.2.2.2.2 a.1 (mc_pla one (pin p) (oop p))) else a
theorem mc_filf_t {one pin psz oop : Nat → Int32} {p : Nat} (h : mc_isc oop p = true) (a : FT) : mc_filf one pin psz oop p a = (a.1 + 1, upd a.2.1 a.1 (nI p), upd a.2.2.1 a.1 (oop p), upd a.2.2.2.1 a.1 (psz p), upd a.2.2.2.2.1 a.1 (pin p), vp_updL a.2.2.2.2.2 a.1 (mc_pla one (pin p) (oop p))) := if_pos h
theorem mc_filf_f {one pin psz oop : Nat → Int32} {p : Nat} (h : mc_isc oop p = false) (a : FT) : mc_filf one pin psz oop p a = a := if_neg (by rw [h]; decide)
def mc_lon (pla : Nat → Int64) (cn : Nat) : Int64 := (fo (mc_lonf pla) cn (0, 0)).1 &&& ((fo (mc_lonf pla) cn (0, 0)).2 ^^^ (-1))
def mc_setf (v : Int32) : Nat → (Nat → Int32) → (Nat → Int32) := fun o f => upd f o v
end
section
/-! the least cover -/
/-- B is the least set of candidates that serves O: lightest; of these the first -/
def LeastOf (c : Nat) (pl : Nat → Int64) (wn : Nat → Nat) (O B : Int64) : Prop := (∀ i, zb B i = true → i < c) ∧ Cov c pl O (zb B) ∧ ∀ S : Nat → Bool, (∀ i, S i = true → i < c) → Cov c pl O S → ¬ Bet (sw wn S c) S (sw wn (zb B) c) (zb B)
theorem least_one {c : Nat} {pl : Nat → Int64} {wn : Nat → Nat} {O B B' : Int64} (h : LeastOf c pl wn O B) (h' : LeastOf c pl wn O B') : B = B' := by
  have h1 := h.2.2 (zb B') h'.1 h'.2.1
  have h2 := h'.2.2 (zb B) h.1 h.2.1
  have hw : sw wn (zb B) c = sw wn (zb B') c := by
    rcases Nat.lt_trichotomy (sw wn (zb B) c) (sw wn (zb B') c) with q | q | q
    · exact absurd (Or.inl q) h2
    · exact q
    · exact absurd (Or.inl q) h1
  exact zb_ext (fun i _ => lex_tot (fun q => h2 (Or.inr ⟨hw, q⟩)) (fun q => h1 (Or.inr ⟨hw.symm, q⟩)) i)
theorem sv_ok {pl : Nat → Int64} {q : Nat} (hq : q < 32) : ∀ c, c ≤ 63 → ∀ i, zb (fo (mc_svf pl q) c 0) i = (decide (i < c) && zb (pl i) q) := by
  intro c
  induction c with
  | zero => intro _ i; rw [fo_0, zb_0]; simp
  | succ c ih =>
    intro hc i
    have hb : ∀ (x : Int64) (j : Nat), zb (((x >>> ((nI q).toInt64 &&& 63)) &&& 1) <<< ((nI c).toInt64 &&& 63)) j = (decide (j = c) && zb x q) := by
      intro x j
      have e : (x >>> ((nI q).toInt64 &&& 63)) &&& 1 = if zb x q = true then 1 else 0 := by
        apply zb_ext
        intro k hk
        rw [zb_and, zb_1]
        by_cases h0 : k = 0
        · subst h0
          rw [zb_sar x (by omega)]
          cases zb x q <;> simp [zb_0, zb_1]
        · cases zb x q <;> simp [zb_0, zb_1, h0]
      rw [e]
      cases hz : zb x q with
      | true =>
        rw [if_pos rfl]
        show zb (zo c) j = _
        rw [zb_zo (by omega)]; simp
      | false =>
        rw [if_neg (by decide)]
        have : ∀ k, k < 64 → (0 : Int64) <<< ((nI k).toInt64 &&& 63) = 0 := by decide +kernel
        rw [this c (by omega), zb_0]; simp
    rw [fo_s]
    unfold mc_svf
    rw [zb_or, hb]
    have := ih (by omega) i
    unfold mc_svf at this
    rw [this]
    by_cases hi : i = c
    · subst hi; simp
    · have e : decide (i < c + 1) = decide (i < c) := by simp; omega
      rw [e]; simp [hi]
theorem sef_at {pla : Nat → Int64} {cn : Nat} {ser : Nat → Int64} : ∀ n q, q < n → (fo (mc_sef pla cn) n ser) q = fo (mc_svf pla q) cn 0 := by
  intro n
  induction n with
  | zero => intro q h; omega
  | succ n ih =>
    intro q h
    rw [fo_s]
    unfold mc_sef
    by_cases hq : q = n
    · subst hq; exact pk_uLs
    · rw [pk_uLn hq]
      exact ih q (by omega)
theorem wef_at {siz : Nat → Int32} {wei : Nat → Int32} : ∀ n i, i < n → (fo (mc_wef siz) n wei) i = 1000 + siz i := by
  intro n
  induction n with
  | zero => intro i h; omega
  | succ n ih =>
    intro i h
    rw [fo_s]
    unfold mc_wef
    by_cases hq : i = n
    · subst hq; exact pk_us
    · rw [pk_un hq]
      exact ih i (by omega)
/-- what findLeast's search finds -/
theorem ext_least (pop : Int64 → Int32) {c : Nat} {pl : Nat → Int64} {siz wei : Nat → Int32} {sz : Nat → Nat} {ser : Nat → Int64} {O : Int64} (hc : c ≤ 63) (hs : ∀ i, i < c → siz i = nI (sz i) ∧ sz i ≤ 4) (h32 : ∀ q, zb O q = true → q < 32) (hcov : Cov c pl O (fun i => decide (i < c))) :
    ∃ B, m_ext pop c pl (fo (mc_wef siz) c wei) (fo (mc_sef pl c) 32 ser) 32 O (zo c - 1) 0 0 (1000000, 0) = (nI (sw (fun i => 1000 + sz i) (zb B) c), B) ∧ LeastOf c pl (fun i => 1000 + sz i) O B := by
  have hw : ∀ i, i < c → (fo (mc_wef siz) c wei) i = nI (1000 + sz i) ∧ 0 < 1000 + sz i ∧ 1000 + sz i < 2 ^ 20 := fun i hi => by
    obtain ⟨e, h4⟩ := hs i hi
    refine ⟨?_, by omega, by omega⟩
    rw [wef_at c i hi, e, show (1000 : Int32) = nI 1000 from rfl, nI_add]
  have hsv : ∀ q i, q < 32 → zb ((fo (mc_sef pl c) 32 ser) q) i = (decide (i < c) && zb (pl i) q) := fun q i hq => by
    rw [sef_at 32 q hq, sv_ok hq c hc i]
  have hle : ∀ S : Nat → Bool, sw (fun i => 1000 + sz i) S c ≤ c * 1004 := fun S => sw_le (fun i hi => by have := (hs i hi).2; omega)
  have hpc : pcn O ≤ 32 := by
    have := sw_le (w := fun _ => 1) (S := zb O) (n := 32) (m := 1) (fun _ _ => Nat.le_refl 1)
    unfold pcn; omega
  obtain ⟨bw, bs, h1, h2, h3, h4, h5⟩ := ext_ok pop hc hw hsv 32 O (zo c - 1) 0 0 1000000 0 h32 hpc (fun k hk => by
    rw [zb_full (by omega)] at hk
    exact ⟨of_decide_eq_true hk, zb_0 k⟩) (by have := hle (zb (zo c - 1)); have : c * 1004 ≤ 63 * 1004 := Nat.mul_le_mul_right _ hc; omega) (Nat.le_refl _)
  have hsub : ∀ S : Nat → Bool, (∀ i, S i = true → i < c) → Sub c S (zo c - 1) := fun S h i hi => ⟨h i hi, by rw [zb_full (by omega)]; exact decide_eq_true (h i hi)⟩
  have hun : ∀ (S : Nat → Bool) i, un 0 S i = S i := fun S i => by
    show (zb 0 i || S i) = S i
    rw [zb_0]; rfl
  rcases h3 with ⟨e1, e2⟩ | ⟨S, s1, s2, s3, s4⟩
  · exfalso
    subst e1; subst e2
    refine h4 (fun i => decide (i < c)) (hsub _ (fun i hi => of_decide_eq_true hi)) hcov (Or.inl ?_)
    have := hle (fun i => decide (i < c))
    have : c * 1004 ≤ 63 * 1004 := Nat.mul_le_mul_right _ hc
    omega
  · have e : ∀ i, zb bs i = S i := fun i => by rw [s4 i, hun]
    have ew : sw (fun i => 1000 + sz i) (zb bs) c = sw (fun i => 1000 + sz i) S c := sw_congr (fun i _ => e i)
    refine ⟨bs, ?_, fun i hi => (s1 i (by rw [← e i]; exact hi)).1, fun q hq => ?_, fun T t1 t2 hB => ?_⟩
    · rw [show (0 : Int32) = nI 0 from rfl, show (1000000 : Int32) = nI 1000000 from rfl, h1, ew, s3, Nat.zero_add]
    · obtain ⟨i, a1, a2, a3⟩ := s2 q hq
      exact ⟨i, a1, by rw [e i]; exact a2, a3⟩
    · refine h4 T (hsub T t1) t2 ?_
      rw [s3, Nat.zero_add, Nat.zero_add, ← ew]
      exact bet_congr (fun i => (hun T i).symm) (fun _ => rfl) hB
end
section
/-! the table of candidates, place by place -/
theorem cnt_s (P : Nat → Bool) (n : Nat) : cnt P (n + 1) = cnt P n + (if P n = true then 1 else 0) := rfl
theorem cnt_le (P : Nat → Bool) {a b : Nat} (h : a ≤ b) : cnt P a ≤ cnt P b := by
  induction b with
  | zero => have : a = 0 := by omega
            subst this; exact Nat.le_refl _
  | succ b ih =>
    rw [cnt_s]
    by_cases h1 : a = b + 1
    · subst h1; rw [cnt_s]; exact Nat.le_refl _
    · have := ih (by omega); omega
theorem cnt_lt {P : Nat → Bool} {p n : Nat} (h : p < n) (hp : P p = true) : cnt P p < cnt P n := by
  have h1 := cnt_le P (show p + 1 ≤ n from h)
  rw [cnt_s, if_pos hp] at h1
  omega
theorem cnt_inj {P : Nat → Bool} {p q : Nat} (hp : P p = true) (hq : P q = true) (h : cnt P p = cnt P q) : p = q := by
  rcases Nat.lt_trichotomy p q with g | g | g
  · have := cnt_lt g hp; omega
  · exact g
  · have := cnt_lt g hq; omega
theorem cnt_surj {P : Nat → Bool} {i : Nat} : ∀ {n : Nat}, i < cnt P n → ∃ p, p < n ∧ P p = true ∧ cnt P p = i := by
  intro n
  induction n with
  | zero => intro h; exact absurd h (Nat.not_lt_zero _)
  | succ n ih =>
    intro h
    rw [cnt_s] at h
    by_cases hi : i < cnt P n
    · obtain ⟨p, h1, h2, h3⟩ := ih hi
      exact ⟨p, by omega, h2, h3⟩
    · by_cases hp : P n = true
      · rw [if_pos hp] at h
        exact ⟨n, by omega, hp, by omega⟩
      · rw [if_neg hp] at h; omega
theorem cnt_bound (P : Nat → Bool) (n : Nat) : cnt P n ≤ n := by
  have := sw_le (w := fun _ => 1) (S := P) (n := n) (m := 1) (fun _ _ => Nat.le_refl 1)
  unfold cnt; omega
theorem fill_ok (one pin psz oop : Nat → Int32) (num out siz inp : Nat → Int32) (pla : Nat → Int64) : ∀ n, (fo (mc_filf one pin psz oop) n (0, num, out, siz, inp, pla)).1 = cnt (mc_isc oop) n ∧ ∀ p, p < n → mc_isc oop p = true →
    (fo (mc_filf one pin psz oop) n (0, num, out, siz, inp, pla)).2.1 (cnt (mc_isc oop) p) = nI p ∧ (fo (mc_filf one pin psz oop) n (0, num, out, siz, inp, pla)).2.2.1 (cnt (mc_isc oop) p) = oop p ∧ (fo (mc_filf one pin psz oop) n (0, num, out, siz, inp, pla)).2.2.2.1 (cnt (mc_isc oop) p) = psz p ∧ (fo (mc_filf one pin psz oop) n (0, num, out, siz, inp, pla)).2.2.2.2.1 (cnt (mc_isc oop) p) = pin p ∧ (fo (mc_filf one pin psz oop) n (0, num, out, siz, inp, pla)).2.2.2.2.2 (cnt (mc_isc oop) p) = mc_pla one (pin p) (oop p) := by
  intro n
  induction n with
  | zero => exact ⟨rfl, fun p h => absurd h (Nat.not_lt_zero _)⟩
  | succ n ih =>
    obtain ⟨h1, h2⟩ := ih
    rw [fo_s]
    generalize fo (mc_filf one pin psz oop) n (0, num, out, siz, inp, pla) = a at h1 h2 ⊢
    cases hn : mc_isc oop n with
    | true =>
      rw [mc_filf_t hn, cnt_s, if_pos hn]
      refine ⟨by show a.1 + 1 = _; rw [h1], fun p hp hq => ?_⟩
      show upd a.2.1 a.1 (nI n) _ = _ ∧ upd a.2.2.1 a.1 (oop n) _ = _ ∧ upd a.2.2.2.1 a.1 (psz n) _ = _ ∧ upd a.2.2.2.2.1 a.1 (pin n) _ = _ ∧ vp_updL a.2.2.2.2.2 a.1 (mc_pla one (pin n) (oop n)) _ = _
      rw [h1]
      by_cases hpn : p = n
      · subst hpn
        exact ⟨pk_us, pk_us, pk_us, pk_us, pk_uLs⟩
      · have hne : cnt (mc_isc oop) p ≠ cnt (mc_isc oop) n := fun h => hpn (cnt_inj hq hn h)
        rw [pk_un hne, pk_un hne, pk_un hne, pk_un hne, pk_uLn hne]
        exact h2 p (by omega) hq
    | false =>
      rw [mc_filf_f hn, cnt_s, if_neg (by rw [hn]; decide)]
      refine ⟨h1, fun p hp hq => ?_⟩
      have hpn : p ≠ n := fun h => by subst h; rw [hn] at hq; cases hq
      exact h2 p (by omega) hq
theorem oof_at {pin zer oop : Nat → Int32} {mo : Nat} : ∀ n p, p < n → (fo (mc_oof pin zer mo) n oop) p = fo (mc_outf (pin p) zer) mo 0 := by
  intro n
  induction n with
  | zero => intro p h; omega
  | succ n ih =>
    intro p h
    rw [fo_s]
    unfold mc_oof
    by_cases hq : p = n
    · subst hq; exact pk_us
    · rw [pk_un hq]
      exact ih p (by omega)
end
section
/-! places: output o at inputs x is bit 16 * o + x -/
theorem zb_lN {a : Nat} (h : a < 2 ^ 64) (j : Nat) : zb (lN a) j = a.testBit j := by
  show (BitVec.ofNat 64 a).getLsbD j = _
  rw [BitVec.getLsbD_ofNat]
  rcases Nat.lt_or_ge j 64 with hj | hj
  · simp [hj]
  · rw [Nat.testBit_lt_two_pow (Nat.lt_of_lt_of_le h (Nat.pow_le_pow_right (n := 2) (by decide) hj))]
    simp; omega
theorem zb_nI {a : Nat} (h : a < 2 ^ 31) (j : Nat) : zb (nI a).toInt64 j = a.testBit j := by
  rw [nI_l h, zb_lN (Nat.lt_trans h (by decide))]
theorem zb_shl (x : Int64) {k : Nat} (hk : k < 64) {j : Nat} (hj : j < 64) : zb (x <<< ((nI k).toInt64 &&& 63)) j = (!decide (j < k) && zb x (j - k)) := by
  unfold zb
  rw [Int64.toBitVec_shiftLeft, zb_c k hk]
  have e : (BitVec.ofNat 64 k).toNat = k := by simp; omega
  rw [BitVec.shiftLeft_eq', e, BitVec.getLsbD_shiftLeft]
  simp [hj]
/-- (v >> o & 1) == 0, of a small number -/
theorem bit_test {v o : Nat} (hv : v < 2 ^ 31) (ho : o < 31) : (nI v >>> (nI o &&& 31)) &&& 1 = 0 ↔ v.testBit o = false := by
  have hs : ∀ o, o < 31 → ((nI o &&& 31).toBitVec.smod 32).toNat = o := by decide +kernel
  rw [pk_shrN hv (nI o &&& 31) o (hs o ho), pk_andN (m := 1) (Nat.lt_of_le_of_lt (Nat.div_le_self _ _) (by omega)) 1 rfl]
  have h2 : v / 2 ^ o % 2 ^ 1 < 2 ^ 31 := Nat.lt_of_lt_of_le (Nat.mod_lt _ (by decide)) (by decide)
  rw [show (0 : Int32) = nI 0 from rfl, nI_eq h2 (by decide)]
  rw [Nat.testBit_eq_decide_div_mod_eq]
  simp only [decide_eq_false_iff_not]
  have : v / 2 ^ o % 2 ^ 1 = v / 2 ^ o % 2 := rfl
  omega
theorem plf_bits {on : Nat → Nat} {one : Nat → Int32} (h : ∀ o, o < 2 → one o = nI (on o) ∧ on o < 65536) {v : Nat} (hv : v < 2 ^ 31) {o x : Nat} (ho : o < 2) (hx : x < 16) : zb (fo (mc_plf one (nI v)) 2 0) (16 * o + x) = (v.testBit o && (on o).testBit x) := by
  obtain ⟨e0, b0⟩ := h 0 (by decide)
  obtain ⟨e1, b1⟩ := h 1 (by decide)
  have t0 := bit_test (v := v) (o := 0) hv (by decide)
  have t1 := bit_test (v := v) (o := 1) hv (by decide)
  have big : ∀ (a j : Nat), a < 65536 → 16 ≤ j → a.testBit j = false := fun a j h1 h2 => Nat.testBit_lt_two_pow (Nat.lt_of_lt_of_le h1 (Nat.pow_le_pow_right (n := 2) (by decide) h2))
  have z0 : ∀ j, j < 64 → zb (fo (mc_plf one (nI v)) 1 0) j = (v.testBit 0 && (on 0).testBit j) := by
    intro j hj
    rw [fo_s, fo_0]
    unfold mc_plf
    cases hb : v.testBit 0 with
    | false => rw [if_pos (t0.mpr hb), zb_0]; rfl
    | true =>
      rw [if_neg (fun q => by rw [t0.mp q] at hb; cases hb), zb_or, zb_0, e0, zb_shl _ (by decide) hj, zb_nI (by omega)]
      simp
  rw [fo_s]
  have key : zb (mc_plf one (nI v) 1 (fo (mc_plf one (nI v)) 1 0)) (16 * o + x) = (zb (fo (mc_plf one (nI v)) 1 0) (16 * o + x) || (v.testBit 1 && (!decide (16 * o + x < 16) && (on 1).testBit (16 * o + x - 16)))) := by
    generalize fo (mc_plf one (nI v)) 1 0 = a
    unfold mc_plf
    cases hb : v.testBit 1 with
    | false => rw [if_pos (t1.mpr hb)]; simp
    | true =>
      rw [if_neg (fun q => by rw [t1.mp q] at hb; cases hb), zb_or, e1, zb_shl _ (by decide) (by omega), zb_nI (by omega)]
      simp
  rw [key, z0 _ (by omega)]
  rcases (show o = 0 ∨ o = 1 by omega) with rfl | rfl
  · have : decide (16 * 0 + x < 16) = true := decide_eq_true (by omega)
    rw [this]; simp
  · have : decide (16 * 1 + x < 16) = false := decide_eq_false (by omega)
    rw [this, big (on 0) _ b0 (by omega), show 16 * 1 + x - 16 = x by omega]; simp
theorem plf_high {on : Nat → Nat} {one : Nat → Int32} (h : ∀ o, o < 2 → one o = nI (on o) ∧ on o < 65536) {v : Nat} (hv : v < 2 ^ 31) {j : Nat} (hj : 32 ≤ j) : zb (fo (mc_plf one (nI v)) 2 0) j = false := by
  rcases Nat.lt_or_ge j 64 with h64 | h64
  · obtain ⟨e0, b0⟩ := h 0 (by decide)
    obtain ⟨e1, b1⟩ := h 1 (by decide)
    have big : ∀ (a j : Nat), a < 65536 → 16 ≤ j → a.testBit j = false := fun a j h1 h2 => Nat.testBit_lt_two_pow (Nat.lt_of_lt_of_le h1 (Nat.pow_le_pow_right (n := 2) (by decide) h2))
    have z0 : zb (fo (mc_plf one (nI v)) 1 0) j = false := by
      rw [fo_s, fo_0]
      unfold mc_plf
      split
      · exact zb_0 j
      · rw [zb_or, zb_0, e0, zb_shl _ (by decide) h64, zb_nI (by omega), big _ _ b0 (by omega)]; simp
    rw [fo_s]
    generalize fo (mc_plf one (nI v)) 1 0 = a at z0 ⊢
    unfold mc_plf
    split
    · exact z0
    · rw [zb_or, z0, e1, zb_shl _ (by decide) h64, zb_nI (by omega), big _ _ b1 (by omega)]; simp
  · exact zb_ge h64
theorem pla_bits {on : Nat → Nat} {one : Nat → Int32} (h : ∀ o, o < 2 → one o = nI (on o) ∧ on o < 65536) {w v : Nat} (hw : w < 65536) (hv : v < 2 ^ 31) {o x : Nat} (ho : o < 2) (hx : x < 16) : zb (mc_pla one (nI w) (nI v)) (16 * o + x) = (w.testBit x && (v.testBit o && (on o).testBit x)) := by
  unfold mc_pla
  rw [zb_and, plf_bits h hv ho hx, zb_or, show (16 : Int32) = nI 16 from rfl, zb_shl _ (by decide) (by omega), zb_nI (by omega), zb_nI (by omega)]
  have big : ∀ (a j : Nat), a < 65536 → 16 ≤ j → a.testBit j = false := fun a j h1 h2 => Nat.testBit_lt_two_pow (Nat.lt_of_lt_of_le h1 (Nat.pow_le_pow_right (n := 2) (by decide) h2))
  rcases (show o = 0 ∨ o = 1 by omega) with rfl | rfl
  · have : decide (16 * 0 + x < 16) = true := decide_eq_true (by omega)
    rw [this, show 16 * 0 + x = x by omega]; simp
  · have : decide (16 * 1 + x < 16) = false := decide_eq_false (by omega)
    rw [this, big w _ hw (by omega), show 16 * 1 + x - 16 = x by omega]; simp
theorem pla_high {on : Nat → Nat} {one : Nat → Int32} (h : ∀ o, o < 2 → one o = nI (on o) ∧ on o < 65536) {w : Int32} {v : Nat} (hv : v < 2 ^ 31) {j : Nat} (hj : 32 ≤ j) : zb (mc_pla one w (nI v)) j = false := by
  unfold mc_pla
  rw [zb_and, plf_high h hv hj, Bool.and_false]
/-- of which outputs a product is, a bit each -/
def outsN (w : Nat) (ze : Nat → Nat) (mo : Nat) : Nat := (if 0 < mo ∧ w &&& ze 0 = 0 then 1 else 0) + (if 1 < mo ∧ w &&& ze 1 = 0 then 2 else 0)
theorem outsN_lt (w : Nat) (ze : Nat → Nat) (mo : Nat) : outsN w ze mo < 4 := by
  unfold outsN
  split <;> split <;> decide
theorem outsN_bit (w : Nat) (ze : Nat → Nat) (mo : Nat) {o : Nat} (ho : o < 2) : (outsN w ze mo).testBit o = (decide (o < mo) && decide (w &&& ze o = 0)) := by
  unfold outsN
  rcases (show o = 0 ∨ o = 1 by omega) with rfl | rfl
  · by_cases h1 : 0 < mo ∧ w &&& ze 0 = 0
    · rw [if_pos h1]
      have e : (decide (0 < mo) && decide (w &&& ze 0 = 0)) = true := by rw [decide_eq_true h1.1, decide_eq_true h1.2]; rfl
      rw [e]; split <;> decide
    · rw [if_neg h1]
      have e : (decide (0 < mo) && decide (w &&& ze 0 = 0)) = false := by
        rw [Bool.eq_false_iff]; intro q; rw [Bool.and_eq_true, decide_eq_true_eq, decide_eq_true_eq] at q; exact h1 q
      rw [e]; split <;> decide
  · by_cases h1 : 1 < mo ∧ w &&& ze 1 = 0
    · rw [if_pos h1]
      have e : (decide (1 < mo) && decide (w &&& ze 1 = 0)) = true := by rw [decide_eq_true h1.1, decide_eq_true h1.2]; rfl
      rw [e]; split <;> decide
    · rw [if_neg h1]
      have e : (decide (1 < mo) && decide (w &&& ze 1 = 0)) = false := by
        rw [Bool.eq_false_iff]; intro q; rw [Bool.and_eq_true, decide_eq_true_eq, decide_eq_true_eq] at q; exact h1 q
      rw [e]; split <;> decide
theorem outf_ok {ze : Nat → Nat} {zer : Nat → Int32} (h : ∀ o, o < 2 → zer o = nI (ze o) ∧ ze o < 65536) {w mo : Nat} (hw : w < 65536) (hm : mo ≤ 2) : fo (mc_outf (nI w) zer) mo 0 = nI (outsN w ze mo) := by
  obtain ⟨e0, b0⟩ := h 0 (by decide)
  obtain ⟨e1, b1⟩ := h 1 (by decide)
  have t : ∀ z, z < 65536 → (nI w &&& nI z = 0 ↔ w &&& z = 0) := fun z hz => by
    have hl : w &&& z ≤ w := Nat.and_le_left
    rw [nI_and, show (0 : Int32) = nI 0 from rfl, nI_eq (by omega) (by decide)]
  have t0 := t _ b0
  have t1 := t _ b1
  unfold outsN
  rcases (show mo = 0 ∨ mo = 1 ∨ mo = 2 by omega) with rfl | rfl | rfl
  · rfl
  · rw [fo_s, fo_0]; unfold mc_outf; rw [e0]
    by_cases h0 : w &&& ze 0 = 0
    · rw [if_pos (t0.mpr h0), if_pos ⟨by decide, h0⟩, if_neg (fun q => absurd q.1 (by decide))]; rfl
    · rw [if_neg (fun q => h0 (t0.mp q)), if_neg (fun q => h0 q.2), if_neg (fun q => absurd q.1 (by decide))]; rfl
  · rw [fo_s, fo_s, fo_0]; unfold mc_outf; rw [e0, e1]
    by_cases h0 : w &&& ze 0 = 0
    · rw [if_pos (t0.mpr h0), if_pos (c := 0 < 2 ∧ w &&& ze 0 = 0) ⟨by decide, h0⟩]
      by_cases h1 : w &&& ze 1 = 0
      · rw [if_pos (t1.mpr h1), if_pos ⟨by decide, h1⟩]; rfl
      · rw [if_neg (fun q => h1 (t1.mp q)), if_neg (fun q => h1 q.2)]; rfl
    · rw [if_neg (fun q => h0 (t0.mp q)), if_neg (c := 0 < 2 ∧ w &&& ze 0 = 0) (fun q => h0 q.2)]
      by_cases h1 : w &&& ze 1 = 0
      · rw [if_pos (t1.mpr h1), if_pos ⟨by decide, h1⟩]; rfl
      · rw [if_neg (fun q => h1 (t1.mp q)), if_neg (fun q => h1 q.2)]; rfl
end
section
/-! at most 54 candidates, of the code's table -/
theorem cnt_or3 {P A B C : Nat → Bool} : ∀ {n : Nat}, (∀ i, i < n → P i = true → A i = true ∨ B i = true ∨ C i = true) → cnt P n ≤ cnt A n + cnt B n + cnt C n := by
  intro n
  induction n with
  | zero => intro _; exact Nat.zero_le _
  | succ n ih =>
    intro h
    have h1 := ih (fun i hi => h i (by omega))
    have h2 := h n (by omega)
    rw [cnt_s, cnt_s, cnt_s, cnt_s]
    by_cases hp : P n = true
    · rw [if_pos hp]
      rcases h2 hp with q | q | q
      · rw [if_pos q]; omega
      · rw [if_pos q]; omega
      · rw [if_pos q]; omega
    · rw [if_neg hp]; omega
theorem w4_lt : ∀ p, p < 81 → W4 p < 65536 := by decide +kernel
theorem w4_wider : ∀ p, p < 81 → ∀ k, k < 4 → W4 p &&& W4 (wop p k) = W4 p := by decide +kernel
theorem w4_sub {p k z : Nat} (hp : p < 81) (hk : k < 4) (h : W4 (wop p k) &&& z = 0) : W4 p &&& z = 0 := by
  rw [← w4_wider p hp k hk, Nat.and_assoc, h]; simp
/-- the candidates by numbers: of some output, and of fewer without any part -/
def candN (ze : Nat → Nat) (mo p : Nat) : Bool := !decide (outsN (W4 p) ze mo = 0) && !exn 4 (fun k => !decide (wop p k = p) && decide (outsN (W4 (wop p k)) ze mo = outsN (W4 p) ze mo))
theorem cand_pr4 {ze : Nat → Nat} {mo p : Nat} (hp : p < 81) (h : candN ze mo p = true) : pr4 (ze 0) p = true ∨ pr4 (ze 1) p = true ∨ pr4 (ze 0 ||| ze 1) p = true := by
  unfold candN at h
  rw [Bool.and_eq_true, Bool.not_eq_true', decide_eq_false_iff_not, Bool.not_eq_true'] at h
  obtain ⟨h0, h1⟩ := h
  have h2 : ∀ k, k < 4 → wop p k ≠ p → outsN (W4 (wop p k)) ze mo ≠ outsN (W4 p) ze mo := fun k hk hw he => by
    have : exn 4 (fun k => !decide (wop p k = p) && decide (outsN (W4 (wop p k)) ze mo = outsN (W4 p) ze mo)) = true := exn_true hk (by rw [decide_eq_false hw, decide_eq_true he]; rfl)
    rw [h1] at this; cases this
  have sub : ∀ k, k < 4 → ∀ o, W4 (wop p k) &&& ze o = 0 → W4 p &&& ze o = 0 := fun k hk o hq => w4_sub hp hk hq
  have fin : ∀ z, W4 p &&& z = 0 → (∀ k, k < 4 → wop p k ≠ p → W4 (wop p k) &&& z ≠ 0) → pr4 z p = true := fun z a b => by
    unfold pr4
    rw [decide_eq_true a, exn_false (fun k hk => by
      rw [Bool.eq_false_iff]
      intro q
      rw [Bool.and_eq_true, Bool.not_eq_true', decide_eq_false_iff_not, decide_eq_true_eq] at q
      exact b k hk q.1 q.2)]
    rfl
  unfold outsN at h0 h2
  by_cases a0 : 0 < mo ∧ W4 p &&& ze 0 = 0
  · by_cases a1 : 1 < mo ∧ W4 p &&& ze 1 = 0
    · refine Or.inr (Or.inr (fin _ ((land_or0 _ _ _).mpr ⟨a0.2, a1.2⟩) (fun k hk hw q => h2 k hk hw ?_)))
      rw [land_or0] at q
      rw [if_pos a0, if_pos a1, if_pos ⟨a0.1, q.1⟩, if_pos ⟨a1.1, q.2⟩]
    · refine Or.inl (fin _ a0.2 (fun k hk hw q => h2 k hk hw ?_))
      rw [if_pos a0, if_neg a1, if_pos ⟨a0.1, q⟩, if_neg (fun z => a1 ⟨z.1, sub k hk 1 z.2⟩)]
  · by_cases a1 : 1 < mo ∧ W4 p &&& ze 1 = 0
    · refine Or.inr (Or.inl (fin _ a1.2 (fun k hk hw q => h2 k hk hw ?_)))
      rw [if_neg a0, if_pos a1, if_neg (fun z => a0 ⟨z.1, sub k hk 0 z.2⟩), if_pos ⟨a1.1, q⟩]
    · rw [if_neg a0, if_neg a1] at h0
      exact absurd rfl h0
theorem cand_54 {ze : Nat → Nat} (h0 : ze 0 < 65536) (h1 : ze 1 < 65536) (mo : Nat) {n : Nat} (hn : n ≤ 81) : cnt (candN ze mo) n ≤ 54 := by
  have a := cnt_or3 (n := n) (P := candN ze mo) (fun i hi h => cand_pr4 (by omega) h)
  have b0 := cnt_le (pr4 (ze 0)) hn
  have b1 := cnt_le (pr4 (ze 1)) hn
  have b2 := cnt_le (pr4 (ze 0 ||| ze 1)) hn
  have c0 := pr4_18 h0
  have c1 := pr4_18 h1
  have c2 := pr4_18 (Nat.or_lt_two_pow (n := 16) h0 h1)
  omega
/-- the code's test of a candidate is that of the numbers -/
theorem isc_cand {oop : Nat → Int32} {ze : Nat → Nat} {mo n : Nat} (ho : ∀ p, p < n → oop p = nI (outsN (W4 p) ze mo)) {p : Nat} (hp : p < n) : mc_isc oop p = candN ze mo p := by
  have lt : ∀ q, outsN (W4 q) ze mo < 2 ^ 31 := fun q => Nat.lt_trans (outsN_lt _ _ _) (by decide)
  unfold mc_isc candN
  have e1 : decide (oop p = 0) = decide (outsN (W4 p) ze mo = 0) := by
    rw [ho p hp, show (0 : Int32) = nI 0 from rfl]
    exact decide_eq_decide.mpr (nI_eq (lt p) (by decide))
  have e2 : mc_wideP oop p = fun k => !decide (wop p k = p) && decide (outsN (W4 (wop p k)) ze mo = outsN (W4 p) ze mo) := by
    funext k
    unfold mc_wideP
    have hw : wop p k < n := Nat.lt_of_le_of_lt (wop_le2 p k) hp
    rw [ho _ hw, ho p hp]
    congr 1
    exact decide_eq_decide.mpr (nI_eq (lt _) (lt _))
  rw [e1, e2]
end
section
/-! every place that is 1 is served by some candidate -/
/-- the product of all inputs that is 1 for x alone -/
def pxx (n x : Nat) : Nat := fo (fun k a => a + (if x.testBit k = true then 1 else 2) * 3 ^ k) n 0
theorem pxx_ok : ∀ n, n < 5 → ∀ x, x < 2 ^ n → pxx n x < 3 ^ n ∧ W4 (pxx n x) % 2 ^ 2 ^ n = 2 ^ x := by decide +kernel
theorem w4_mono {p k x : Nat} (hp : p < 81) (hk : k < 4) (h : (W4 p).testBit x = true) : (W4 (wop p k)).testBit x = true := by
  rw [← w4_wider p hp k hk, Nat.testBit_and, Bool.and_eq_true] at h
  exact h.2
theorem land_mod {w z m : Nat} (hz : z < 2 ^ m) : w &&& z = w % 2 ^ m &&& z := by
  apply Nat.eq_of_testBit_eq
  intro i
  rw [Nat.testBit_and, Nat.testBit_and, Nat.testBit_mod_two_pow]
  rcases Nat.lt_or_ge i m with h | h
  · simp [h]
  · rw [Nat.testBit_lt_two_pow (Nat.lt_of_lt_of_le hz (Nat.pow_le_pow_right (n := 2) (by decide) h))]; simp
theorem pow2_land {x z : Nat} (h : z.testBit x = false) : 2 ^ x &&& z = 0 := by
  apply Nat.eq_of_testBit_eq
  intro i
  rw [Nat.testBit_and, Nat.testBit_two_pow, Nat.zero_testBit]
  by_cases hi : x = i
  · subst hi; rw [h]; simp
  · simp [hi]
/-- a least product that is 1 for x and of output o is a candidate -/
theorem cand_ex {ze : Nat → Nat} {mo n o x : Nat} (hn : n < 5) (ho : o < mo) (ho2 : o < 2) (hx : x < 2 ^ n) (hz : ze o < 2 ^ 2 ^ n) (hb : (ze o).testBit x = false) : ∃ p, p < 3 ^ n ∧ candN ze mo p = true ∧ (W4 p).testBit x = true ∧ (outsN (W4 p) ze mo).testBit o = true := by
  have h81 : 3 ^ n ≤ 81 := by
    have : ∀ n, n < 5 → 3 ^ n ≤ 81 := by decide
    exact this n hn
  obtain ⟨a1, a2⟩ := pxx_ok n hn x hx
  have hxn : x < 2 ^ n := hx
  have ex : ∃ p, p < 3 ^ n ∧ (W4 p).testBit x = true ∧ W4 p &&& ze o = 0 := by
    refine ⟨pxx n x, a1, ?_, ?_⟩
    · have h1 : (W4 (pxx n x) % 2 ^ 2 ^ n).testBit x = true := by rw [a2, Nat.testBit_two_pow_self]
      rw [Nat.testBit_mod_two_pow, Bool.and_eq_true] at h1
      exact h1.2
    · rw [land_mod hz, a2]; exact pow2_land hb
  obtain ⟨p, ⟨p1, p2, p3⟩, p4⟩ := pk_least (fun p => p < 3 ^ n ∧ (W4 p).testBit x = true ∧ W4 p &&& ze o = 0) ex
  have hbit : (outsN (W4 p) ze mo).testBit o = true := by
    rw [outsN_bit _ _ _ ho2, decide_eq_true ho, decide_eq_true p3]; rfl
  refine ⟨p, p1, ?_, p2, hbit⟩
  unfold candN
  have h0 : outsN (W4 p) ze mo ≠ 0 := fun h => by rw [h, Nat.zero_testBit] at hbit; cases hbit
  rw [decide_eq_false h0, exn_false (fun k hk => ?_)]
  · rfl
  · rw [Bool.eq_false_iff]
    intro q
    rw [Bool.and_eq_true, Bool.not_eq_true', decide_eq_false_iff_not, decide_eq_true_eq] at q
    have hlt : wop p k < p := Nat.lt_of_le_of_ne (wop_le2 p k) q.1
    apply p4 (wop p k) hlt
    refine ⟨by omega, w4_mono (by omega) hk p2, ?_⟩
    have hb2 := hbit
    rw [← q.2, outsN_bit _ _ _ ho2, Bool.and_eq_true, decide_eq_true_eq, decide_eq_true_eq] at hb2
    exact hb2.2
end
