/-! bits of longs, sets of small numbers, folds -/
/-- a fold over 0 .. n - 1 -/
def fo {α : Type} (f : Nat → α → α) : Nat → α → α
  | 0, a => a
  | n + 1, a => f n (fo f n a)
theorem fo_0 {α : Type} (f : Nat → α → α) (a : α) : fo f 0 a = a := rfl
theorem fo_s {α : Type} (f : Nat → α → α) (n : Nat) (a : α) : fo f (n + 1) a = f n (fo f n a) := rfl
/-- is there one below n -/
def exn (n : Nat) (P : Nat → Bool) : Bool := fo (fun j b => b || P j) n false
theorem exn_iff (n : Nat) (P : Nat → Bool) : exn n P = true ↔ ∃ j, j < n ∧ P j = true := by
  induction n with
  | zero => simp [exn, fo]
  | succ n ih =>
    show (exn n P || P n) = true ↔ _
    rw [Bool.or_eq_true, ih]
    constructor
    · rintro (⟨j, h1, h2⟩ | h)
      · exact ⟨j, by omega, h2⟩
      · exact ⟨n, by omega, h⟩
    · rintro ⟨j, h1, h2⟩
      rcases Nat.lt_or_ge j n with h | h
      · exact Or.inl ⟨j, h, h2⟩
      · have : j = n := by omega
        subst this; exact Or.inr h2
theorem exn_false {n : Nat} {P : Nat → Bool} (h : ∀ j, j < n → P j = false) : exn n P = false := by
  rw [Bool.eq_false_iff]
  intro h1
  obtain ⟨j, h2, h3⟩ := (exn_iff n P).mp h1
  rw [h j h2] at h3; cases h3
theorem exn_true {n : Nat} {P : Nat → Bool} {j : Nat} (h1 : j < n) (h2 : P j = true) : exn n P = true := (exn_iff n P).mpr ⟨j, h1, h2⟩
/-- bit i of a long -/
def zb (x : Int64) (i : Nat) : Bool := x.toBitVec.getLsbD i
theorem zb_ext {x y : Int64} (h : ∀ i, i < 64 → zb x i = zb y i) : x = y := Int64.toBitVec_inj.1 (BitVec.eq_of_getLsbD_eq h)
theorem zb_or (x y : Int64) (i : Nat) : zb (x ||| y) i = (zb x i || zb y i) := by simp [zb]
theorem zb_and (x y : Int64) (i : Nat) : zb (x &&& y) i = (zb x i && zb y i) := by simp [zb]
theorem zb_xor (x y : Int64) (i : Nat) : zb (x ^^^ y) i = (zb x i ^^ zb y i) := by simp [zb]
theorem zb_ge {x : Int64} {i : Nat} (h : 64 ≤ i) : zb x i = false := BitVec.getLsbD_of_ge _ _ h
theorem zb_lt {x : Int64} {i : Nat} (h : zb x i = true) : i < 64 := by
  rcases Nat.lt_or_ge i 64 with h1 | h1
  · exact h1
  · rw [zb_ge h1] at h; cases h
theorem zb_0 (i : Nat) : zb 0 i = false := by simp [zb]
theorem zb_m1 {i : Nat} (h : i < 64) : zb (-1) i = true := by
  have : ∀ j : Fin 64, zb (-1) j.val = true := by decide +kernel
  exact this ⟨i, h⟩
theorem zb_not (x : Int64) {i : Nat} (h : i < 64) : zb (x ^^^ (-1)) i = !zb x i := by rw [zb_xor, zb_m1 h]; simp
theorem zb_eq0 {x : Int64} : x = 0 ↔ ∀ i, zb x i = false := ⟨fun h i => by rw [h, zb_0], fun h => zb_ext (fun i _ => by rw [h, zb_0])⟩
theorem zb_ne0 {x : Int64} : ¬ x = 0 ↔ ∃ i, zb x i = true := by
  rw [zb_eq0]
  constructor
  · intro h
    exact Classical.byContradiction fun h1 => h fun i => by
      rw [Bool.eq_false_iff]; exact fun h2 => h1 ⟨i, h2⟩
  · rintro ⟨i, h⟩ h1
    rw [h1 i] at h; cases h
theorem zb_1 (j : Nat) : zb 1 j = decide (j = 0) := by
  rcases Nat.lt_or_ge j 64 with h | h
  · have : ∀ j : Fin 64, zb 1 j.val = decide (j.val = 0) := by decide +kernel
    exact this ⟨j, h⟩
  · rw [zb_ge h]; simp; omega
theorem zb_c : ∀ k, k < 64 → ((nI k).toInt64 &&& 63).toBitVec.smod 64 = BitVec.ofNat 64 k := by decide +kernel
/-- 1L << i -/
def zo (i : Nat) : Int64 := 1 <<< ((nI i).toInt64 &&& 63)
theorem zb_zo {i : Nat} (h : i < 64) (j : Nat) : zb (zo i) j = decide (j = i) := by
  rcases Nat.lt_or_ge j 64 with h1 | h1
  · have : ∀ i j : Fin 64, zb (zo i.val) j.val = decide (j.val = i.val) := by decide +kernel
    exact this ⟨i, h⟩ ⟨j, h1⟩
  · rw [zb_ge h1]; simp; omega
theorem zb_sar (x : Int64) {i : Nat} (h : i < 64) : zb (x >>> ((nI i).toInt64 &&& 63)) 0 = zb x i := by
  unfold zb
  rw [Int64.toBitVec_shiftRight, zb_c i h, BitVec.getLsbD_sshiftRight']
  have e : (BitVec.ofNat 64 i).toNat = i := by simp; omega
  rw [e]; simp [h]
/-- (x >> i & 1) == 0 -/
theorem zb_test (x : Int64) {i : Nat} (h : i < 64) : (x >>> ((nI i).toInt64 &&& 63)) &&& 1 = 0 ↔ zb x i = false := by
  rw [zb_eq0]
  constructor
  · intro h1
    have h2 := h1 0
    rw [zb_and, zb_sar x h, zb_1] at h2
    simpa using h2
  · intro h1 j
    rw [zb_and, zb_1]
    by_cases hj : j = 0
    · subst hj; rw [zb_sar x h, h1]; rfl
    · simp [hj]
/-- (x & 1 << i) == 0 -/
theorem zb_tz (x : Int64) {i : Nat} (h : i < 64) : x &&& zo i = 0 ↔ zb x i = false := by
  rw [zb_eq0]
  constructor
  · intro h1
    have h2 := h1 i
    rw [zb_and, zb_zo h] at h2
    simpa using h2
  · intro h1 j
    rw [zb_and, zb_zo h]
    by_cases hj : j = i
    · subst hj; rw [h1]; rfl
    · simp [hj]
/-- x & ~(1 << i) -/
theorem zb_del (x : Int64) {i : Nat} (h : i < 64) (j : Nat) : zb (x &&& (zo i ^^^ (-1))) j = (zb x j && !decide (j = i)) := by
  rcases Nat.lt_or_ge j 64 with h1 | h1
  · rw [zb_and, zb_not _ h1, zb_zo h]
  · rw [zb_ge h1, zb_ge h1]; rfl
theorem zb_add (x : Int64) {i : Nat} (h : i < 64) (j : Nat) : zb (x ||| zo i) j = (zb x j || decide (j = i)) := by
  rw [zb_or, zb_zo h]
theorem zb_diff (x y : Int64) (j : Nat) : zb (x &&& (y ^^^ (-1))) j = (zb x j && !zb y j) := by
  rcases Nat.lt_or_ge j 64 with h1 | h1
  · rw [zb_and, zb_not _ h1]
  · rw [zb_ge h1, zb_ge h1]; rfl
/-- (1L << n) - 1 -/
theorem zb_full {n : Nat} (h : n < 64) (j : Nat) : zb (zo n - 1) j = decide (j < n) := by
  rcases Nat.lt_or_ge j 64 with h1 | h1
  · have : ∀ i j : Fin 64, zb (zo i.val - 1) j.val = decide (j.val < i.val) := by decide +kernel
    exact this ⟨n, h⟩ ⟨j, h1⟩
  · rw [zb_ge h1]; simp; omega
theorem zb_neg (x : Int64) (i : Nat) : zb (-x) i = (zb x i ^^ (decide (i < 64) && decide (∃ j, j < i ∧ zb x j = true))) := by
  unfold zb
  rw [Int64.toBitVec_neg, BitVec.getLsbD_neg]
/-- the lowest bit alone -/
theorem zb_low (x : Int64) (i : Nat) : zb (x &&& -x) i = (zb x i && !decide (∃ j, j < i ∧ zb x j = true)) := by
  rw [zb_and, zb_neg]
  rcases Nat.lt_or_ge i 64 with h | h
  · cases zb x i <;> simp [h]
  · rw [zb_ge h]; rfl
/-- S comes before T: it has the first one in which they differ -/
def Lex (S T : Nat → Bool) : Prop := ∃ d, S d = true ∧ T d = false ∧ ∀ i, i < d → S i = T i
theorem lex_neg {S T : Nat → Bool} (U : Nat → Bool) (h : Lex S T) : Lex S U ∨ Lex U T := by
  obtain ⟨d, h1, h2, h3⟩ := h
  by_cases hx : ∃ e, e < d ∧ U e ≠ S e
  · obtain ⟨e, ⟨h4, h5⟩, h6⟩ := pk_least (fun e => e < d ∧ U e ≠ S e) hx
    have h7 : ∀ i, i < e → U i = S i := fun i hi => Classical.byContradiction fun hn => h6 i hi ⟨by omega, hn⟩
    cases hs : S e with
    | true =>
      have hu : U e = false := by rw [hs] at h5; cases hq : U e with
        | true => exact absurd hq h5
        | false => rfl
      exact Or.inl ⟨e, hs, hu, fun i hi => (h7 i hi).symm⟩
    | false =>
      have hu : U e = true := by rw [hs] at h5; cases hq : U e with
        | true => rfl
        | false => exact absurd hq h5
      exact Or.inr ⟨e, hu, by rw [← h3 e h4]; exact hs, fun i hi => by rw [h7 i hi]; exact h3 i (by omega)⟩
  · have h7 : ∀ i, i < d → U i = S i := fun i hi => Classical.byContradiction fun hn => hx ⟨i, hi, hn⟩
    cases hu : U d with
    | true => exact Or.inr ⟨d, hu, h2, fun i hi => by rw [h7 i hi]; exact h3 i hi⟩
    | false => exact Or.inl ⟨d, h1, hu, fun i hi => (h7 i hi).symm⟩
theorem lex_irr {S : Nat → Bool} (h : Lex S S) : False := by
  obtain ⟨d, h1, h2, -⟩ := h
  rw [h1] at h2; cases h2
theorem lex_asym {S T : Nat → Bool} (h : Lex S T) (h' : Lex T S) : False := by
  obtain ⟨d, h1, h2, h3⟩ := h
  obtain ⟨e, g1, g2, g3⟩ := h'
  rcases Nat.lt_trichotomy d e with q | q | q
  · rw [← g3 d q] at h1; rw [h1] at h2; cases h2
  · subst q; rw [g1] at h2; cases h2
  · rw [h3 e q] at g2; rw [g1] at g2; cases g2
theorem lex_sup {S T Y : Nat → Bool} (h : Lex S T) (hy : ∀ i, S i = true → Y i = true) : Lex Y T := by
  rcases lex_neg Y h with h1 | h1
  · obtain ⟨d, a, b, -⟩ := h1
    rw [hy d a] at b; cases b
  · exact h1
theorem lex_congr {S S' T T' : Nat → Bool} (hs : ∀ i, S i = S' i) (ht : ∀ i, T i = T' i) (h : Lex S T) : Lex S' T' := by
  obtain ⟨d, h1, h2, h3⟩ := h
  exact ⟨d, by rw [← hs]; exact h1, by rw [← ht]; exact h2, fun i hi => by rw [← hs, ← ht]; exact h3 i hi⟩
theorem lex_tot {S T : Nat → Bool} (h1 : ¬ Lex S T) (h2 : ¬ Lex T S) : ∀ i, S i = T i := by
  intro i
  exact Classical.byContradiction fun hn => by
    obtain ⟨e, h3, h4⟩ := pk_least (fun e => S e ≠ T e) ⟨i, hn⟩
    have h5 : ∀ j, j < e → S j = T j := fun j hj => Classical.byContradiction fun hq => h4 j hj hq
    cases hs : S e with
    | true =>
      have ht : T e = false := by rw [hs] at h3; cases hq : T e with
        | true => exact absurd hq.symm h3
        | false => rfl
      exact h1 ⟨e, hs, ht, h5⟩
    | false =>
      have ht : T e = true := by rw [hs] at h3; cases hq : T e with
        | true => rfl
        | false => exact absurd hq.symm h3
      exact h2 ⟨e, ht, hs, fun j hj => (h5 j hj).symm⟩
/-- 'the first one in which they differ', as the code asks it -/
theorem lex_code (x y : Int64) : x &&& ((x ^^^ y) &&& -(x ^^^ y)) = 0 ↔ ¬ Lex (zb x) (zb y) := by
  rw [zb_eq0]
  constructor
  · rintro h ⟨d, h1, h2, h3⟩
    have h4 := h d
    rw [zb_and, zb_low, zb_xor, h1, h2] at h4
    have h5 : decide (∃ j, j < d ∧ zb (x ^^^ y) j = true) = false := by
      rw [decide_eq_false_iff_not]
      rintro ⟨j, hj, hx⟩
      rw [zb_xor, h3 j hj] at hx; simp at hx
    rw [h5] at h4; simp at h4
  · intro h i
    rw [Bool.eq_false_iff]
    intro h1
    rw [zb_and, zb_low, zb_xor] at h1
    simp only [Bool.and_eq_true, Bool.not_eq_true', decide_eq_false_iff_not] at h1
    obtain ⟨h2, h3, h4⟩ := h1
    refine h ⟨i, h2, ?_, ?_⟩
    · rw [h2] at h3; simpa using h3
    · intro j hj
      refine Classical.byContradiction fun hn => h4 ⟨j, hj, ?_⟩
      rw [zb_xor]; simpa using hn
/-- the sum of the weights of a set, of what lies below n -/
def sw (w : Nat → Nat) (S : Nat → Bool) : Nat → Nat
  | 0 => 0
  | n + 1 => sw w S n + (if S n = true then w n else 0)
def su (S : Nat → Bool) (i : Nat) (b : Bool) : Nat → Bool := fun k => if k = i then b else S k
theorem su_s (S : Nat → Bool) (i : Nat) (b : Bool) : su S i b i = b := by simp [su]
theorem su_n (S : Nat → Bool) {i k : Nat} (b : Bool) (h : k ≠ i) : su S i b k = S k := by simp [su, h]
theorem sw_congr {w : Nat → Nat} {S T : Nat → Bool} {n : Nat} (h : ∀ i, i < n → S i = T i) : sw w S n = sw w T n := by
  induction n with
  | zero => rfl
  | succ n ih => rw [sw, sw, ih (fun i hi => h i (by omega)), h n (by omega)]
theorem sw_su {w : Nat → Nat} {S : Nat → Bool} {i : Nat} {b : Bool} {n : Nat} (hi : i < n) : sw w (su S i b) n + (if S i = true then w i else 0) = sw w S n + (if b = true then w i else 0) := by
  induction n with
  | zero => omega
  | succ n ih =>
    rw [sw, sw]
    by_cases h : i = n
    · subst h
      rw [su_s, sw_congr (S := su S i b) (T := S) (fun j hj => su_n S b (by omega))]
      omega
    · rw [su_n S b (show n ≠ i by omega)]
      have := ih (by omega)
      omega
theorem sw_mono {w : Nat → Nat} {S T : Nat → Bool} {n : Nat} (h : ∀ i, i < n → S i = true → T i = true) : sw w S n ≤ sw w T n := by
  induction n with
  | zero => exact Nat.le_refl _
  | succ n ih =>
    rw [sw, sw]
    have h1 := ih (fun i hi => h i (by omega))
    have h2 := h n (by omega)
    cases hs : S n with
    | true => rw [h2 hs]; simp; omega
    | false => simp; omega
theorem sw_one {w : Nat → Nat} {S T : Nat → Bool} {n i : Nat} (h : ∀ i, i < n → S i = true → T i = true) (hi : i < n) (h1 : S i = false) (h2 : T i = true) : sw w S n + w i ≤ sw w T n := by
  have h3 := sw_su (w := w) (S := S) (i := i) (b := true) hi
  rw [h1] at h3
  have h4 : sw w (su S i true) n ≤ sw w T n := sw_mono (fun j hj hs => by
    by_cases hq : j = i
    · subst hq; exact h2
    · rw [su_n S true hq] at hs; exact h j hj hs)
  simp at h3
  omega
theorem sw_le {w : Nat → Nat} {S : Nat → Bool} {n m : Nat} (h : ∀ i, i < n → w i ≤ m) : sw w S n ≤ n * m := by
  induction n with
  | zero => exact Nat.zero_le _
  | succ n ih =>
    rw [sw, Nat.succ_mul]
    have h1 := ih (fun i hi => h i (by omega))
    have h2 := h n (by omega)
    split <;> omega
