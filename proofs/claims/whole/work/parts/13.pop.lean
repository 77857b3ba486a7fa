/-! the number of bits of a long, as the JDK counts them -/
def mk8 (b : Nat) : Nat → Nat
  | 0 => 0
  | n + 1 => mk8 b n * 256 + b
def bs1 (m x : Nat) : Nat := x - (x / 2 &&& m)
def bs2 (m x : Nat) : Nat := (x &&& m) + (x / 4 &&& m)
def bs3 (m x : Nat) : Nat := (x + x / 16) &&& m
theorem and_bytes (a c : Nat) {b d : Nat} (hb : b < 256) (hd : d < 256) : (a * 256 + b) &&& (c * 256 + d) = (a &&& c) * 256 + (b &&& d) := by
  have h1 : ((a * 256 + b) &&& (c * 256 + d)) / 256 = (a * 256 + b) / 256 &&& (c * 256 + d) / 256 := Nat.and_div_two_pow (n := 8)
  have h2 : ((a * 256 + b) &&& (c * 256 + d)) % 256 = (a * 256 + b) % 256 &&& (c * 256 + d) % 256 := Nat.and_mod_two_pow (n := 8)
  rw [show (a * 256 + b) / 256 = a by omega, show (c * 256 + d) / 256 = c by omega] at h1
  rw [show (a * 256 + b) % 256 = b by omega, show (c * 256 + d) % 256 = d by omega] at h2
  omega
theorem by1 : ∀ lo, lo < 256 → ∀ h, h < 2 → ((h * 128 + lo / 2) &&& 85) = (lo / 2 &&& 85) := by decide +kernel
theorem by2 : ∀ b, b < 256 → ∀ h, h < 4 → ((h * 64 + b / 4) &&& 51) = (b / 4 &&& 51) := by decide +kernel
def popc (b : Nat) : Nat := cnt (Nat.testBit b) 8
theorem by3 : ∀ lo, lo < 256 → bs1 85 lo < 256 ∧ bs2 51 (bs1 85 lo) % 16 ≤ 4 ∧ bs2 51 (bs1 85 lo) / 16 ≤ 4 ∧ bs2 51 (bs1 85 lo) % 16 + bs2 51 (bs1 85 lo) / 16 = popc lo := by decide +kernel
theorem popc_8 : ∀ b, b < 256 → popc b ≤ 8 := by decide +kernel
theorem bs1_step (n hi : Nat) {lo : Nat} (hlo : lo < 256) : bs1 (mk8 85 (n + 1)) (hi * 256 + lo) = bs1 (mk8 85 n) hi * 256 + bs1 85 lo := by
  unfold bs1
  rw [mk8, show (hi * 256 + lo) / 2 = hi / 2 * 256 + (hi % 2 * 128 + lo / 2) by omega, and_bytes _ _ (by omega) (by omega), by1 lo hlo (hi % 2) (by omega)]
  have h1 : hi / 2 &&& mk8 85 n ≤ hi / 2 := Nat.and_le_left
  have h2 : lo / 2 &&& 85 ≤ lo / 2 := Nat.and_le_left
  omega
theorem bs2_step (n a : Nat) {b : Nat} (hb : b < 256) : bs2 (mk8 51 (n + 1)) (a * 256 + b) = bs2 (mk8 51 n) a * 256 + bs2 51 b := by
  unfold bs2
  rw [mk8, show (a * 256 + b) / 4 = a / 4 * 256 + (a % 4 * 64 + b / 4) by omega, and_bytes _ _ hb (by omega), and_bytes _ _ (by omega) (by omega), by2 b hb (a % 4) (by omega)]
  omega
theorem bs3_step (n : Nat) {a b : Nat} (ha : a % 16 ≤ 4) (hb : b % 16 ≤ 4) (hb2 : b / 16 ≤ 4) : bs3 (mk8 15 (n + 1)) (a * 256 + b) = bs3 (mk8 15 n) a * 256 + (b % 16 + b / 16) := by
  unfold bs3
  rw [mk8, show a * 256 + b + (a * 256 + b) / 16 = (a + a / 16) * 256 + (b + a % 16 * 16 + b / 16) by omega, and_bytes _ _ (by omega) (by omega)]
  have h : (b + a % 16 * 16 + b / 16) &&& 15 = (b + a % 16 * 16 + b / 16) % 16 := Nat.and_two_pow_sub_one_eq_mod _ 4
  rw [h]
  omega
def rp8 : Nat → Nat → Nat
  | 0, _ => 0
  | n + 1, x => rp8 n (x / 256) * 256 + popc (x % 256)
theorem bs_t16 (n x : Nat) : bs2 (mk8 51 n) (bs1 (mk8 85 n) x) % 16 ≤ 4 := by
  cases n with
  | zero => simp [mk8, bs2, bs1]
  | succ n =>
    have e : x = x / 256 * 256 + x % 256 := by omega
    rw [e, bs1_step n _ (by omega), bs2_step n _ (by3 (x % 256) (by omega)).1]
    have := (by3 (x % 256) (by omega)).2.1
    omega
theorem bs_all : ∀ n x, bs3 (mk8 15 n) (bs2 (mk8 51 n) (bs1 (mk8 85 n) x)) = rp8 n x := by
  intro n
  induction n with
  | zero => intro x; simp [mk8, bs3, rp8]
  | succ n ih =>
    intro x
    have e : x = x / 256 * 256 + x % 256 := by omega
    obtain ⟨h1, h2, h3, h4⟩ := by3 (x % 256) (by omega)
    rw [rp8, ← ih (x / 256), ← h4]
    conv => lhs; rw [e]
    rw [bs1_step n _ (by omega), bs2_step n _ h1, bs3_step n (bs_t16 n _) h2 h3]
theorem cnt_byte (x m : Nat) : cnt (Nat.testBit x) (8 + m) = popc (x % 256) + cnt (Nat.testBit (x / 256)) m := by
  unfold cnt popc cnt
  rw [sw_add]
  have h1 : sw (fun _ => 1) (Nat.testBit x) 8 = sw (fun _ => 1) (Nat.testBit (x % 256)) 8 := sw_congr (fun i hi => by
    rw [show (256 : Nat) = 2 ^ 8 from rfl, Nat.testBit_mod_two_pow]; simp [hi])
  have h2 : sw (fun _ => 1) (fun i => Nat.testBit x (8 + i)) m = sw (fun _ => 1) (Nat.testBit (x / 256)) m := sw_congr (fun i hi => by
    rw [show (256 : Nat) = 2 ^ 8 from rfl, Nat.testBit_div_two_pow, Nat.add_comm])
  rw [h1, h2]
def bs4 (y : Nat) : Nat := y + y / 256
def bs5 (y : Nat) : Nat := y + y / 65536
def bs6 (y : Nat) : Nat := y + y / 4294967296
theorem dv {x d : Nat} (z : Nat) (h : x < d) : (x + d * z) / d = z := by
  rw [Nat.add_mul_div_left x z (Nat.lt_of_le_of_lt (Nat.zero_le _) h), Nat.div_eq_of_lt h, Nat.zero_add]
theorem pop_nat {x : Nat} (hx : x < 2 ^ 64) : rp8 8 x < 2 ^ 60 ∧ bs6 (bs5 (bs4 (rp8 8 x))) % 128 = cnt (Nat.testBit x) 64 := by
  have c0 := popc_8 (x % 256) (by omega)
  have c1 := popc_8 (x / 256 % 256) (by omega)
  have c2 := popc_8 (x / 256 / 256 % 256) (by omega)
  have c3 := popc_8 (x / 256 / 256 / 256 % 256) (by omega)
  have c4 := popc_8 (x / 256 / 256 / 256 / 256 % 256) (by omega)
  have c5 := popc_8 (x / 256 / 256 / 256 / 256 / 256 % 256) (by omega)
  have c6 := popc_8 (x / 256 / 256 / 256 / 256 / 256 / 256 % 256) (by omega)
  have c7 := popc_8 (x / 256 / 256 / 256 / 256 / 256 / 256 / 256 % 256) (by omega)
  have e : cnt (Nat.testBit x) 64 = popc (x % 256) + (popc (x / 256 % 256) + (popc (x / 256 / 256 % 256) + (popc (x / 256 / 256 / 256 % 256) + (popc (x / 256 / 256 / 256 / 256 % 256) + (popc (x / 256 / 256 / 256 / 256 / 256 % 256) + (popc (x / 256 / 256 / 256 / 256 / 256 / 256 % 256) + (popc (x / 256 / 256 / 256 / 256 / 256 / 256 / 256 % 256) + 0))))))) := by
    rw [show (64 : Nat) = 8 + 56 from rfl, cnt_byte, show (56 : Nat) = 8 + 48 from rfl, cnt_byte, show (48 : Nat) = 8 + 40 from rfl, cnt_byte, show (40 : Nat) = 8 + 32 from rfl, cnt_byte, show (32 : Nat) = 8 + 24 from rfl, cnt_byte, show (24 : Nat) = 8 + 16 from rfl, cnt_byte, show (16 : Nat) = 8 + 8 from rfl, cnt_byte, show cnt (Nat.testBit (x / 256 / 256 / 256 / 256 / 256 / 256 / 256)) 8 = cnt (Nat.testBit (x / 256 / 256 / 256 / 256 / 256 / 256 / 256)) (8 + 0) from rfl, cnt_byte]
    rfl
  rw [e]
  simp only [rp8, bs4, bs5, bs6]
  generalize popc (x % 256) = a0 at *
  generalize popc (x / 256 % 256) = a1 at *
  generalize popc (x / 256 / 256 % 256) = a2 at *
  generalize popc (x / 256 / 256 / 256 % 256) = a3 at *
  generalize popc (x / 256 / 256 / 256 / 256 % 256) = a4 at *
  generalize popc (x / 256 / 256 / 256 / 256 / 256 % 256) = a5 at *
  generalize popc (x / 256 / 256 / 256 / 256 / 256 / 256 % 256) = a6 at *
  generalize popc (x / 256 / 256 / 256 / 256 / 256 / 256 / 256 % 256) = a7 at *
  clear e hx
  have ey : ((((((((0 * 256 + a7) * 256 + a6) * 256 + a5) * 256 + a4) * 256 + a3) * 256 + a2) * 256 + a1) * 256 + a0) = a0 + 256 * (a1 + 256 * (a2 + 256 * (a3 + 256 * (a4 + 256 * (a5 + 256 * (a6 + 256 * a7)))))) := by omega
  rw [ey]
  clear ey
  have q1 : (a0 + 256 * (a1 + 256 * (a2 + 256 * (a3 + 256 * (a4 + 256 * (a5 + 256 * (a6 + 256 * a7))))))) / 256 = a1 + 256 * (a2 + 256 * (a3 + 256 * (a4 + 256 * (a5 + 256 * (a6 + 256 * a7))))) := dv _ (by omega)
  rw [q1]
  clear q1
  have q2 : a0 + 256 * (a1 + 256 * (a2 + 256 * (a3 + 256 * (a4 + 256 * (a5 + 256 * (a6 + 256 * a7)))))) + (a1 + 256 * (a2 + 256 * (a3 + 256 * (a4 + 256 * (a5 + 256 * (a6 + 256 * a7)))))) = (a0 + a1 + 256 * (a1 + a2)) + 65536 * ((a2 + a3) + 256 * (a3 + a4) + 65536 * ((a4 + a5) + 256 * (a5 + a6) + 65536 * ((a6 + a7) + 256 * a7))) := by omega
  rw [q2]
  clear q2
  have q3 : ((a0 + a1 + 256 * (a1 + a2)) + 65536 * ((a2 + a3) + 256 * (a3 + a4) + 65536 * ((a4 + a5) + 256 * (a5 + a6) + 65536 * ((a6 + a7) + 256 * a7)))) / 65536 = (a2 + a3) + 256 * (a3 + a4) + 65536 * ((a4 + a5) + 256 * (a5 + a6) + 65536 * ((a6 + a7) + 256 * a7)) := dv _ (by omega)
  rw [q3]
  clear q3
  have q4 : (a0 + a1 + 256 * (a1 + a2)) + 65536 * ((a2 + a3) + 256 * (a3 + a4) + 65536 * ((a4 + a5) + 256 * (a5 + a6) + 65536 * ((a6 + a7) + 256 * a7))) + ((a2 + a3) + 256 * (a3 + a4) + 65536 * ((a4 + a5) + 256 * (a5 + a6) + 65536 * ((a6 + a7) + 256 * a7))) = (a0 + a1 + a2 + a3 + 256 * (a1 + a2 + a3 + a4) + 65536 * (a2 + a3 + a4 + a5 + 256 * (a3 + a4 + a5 + a6))) + 4294967296 * ((a4 + a5 + a6 + a7) + 256 * (a5 + a6 + a7) + 65536 * (a6 + a7 + 256 * a7)) := by omega
  rw [q4]
  clear q4
  have q5 : ((a0 + a1 + a2 + a3 + 256 * (a1 + a2 + a3 + a4) + 65536 * (a2 + a3 + a4 + a5 + 256 * (a3 + a4 + a5 + a6))) + 4294967296 * ((a4 + a5 + a6 + a7) + 256 * (a5 + a6 + a7) + 65536 * (a6 + a7 + 256 * a7))) / 4294967296 = (a4 + a5 + a6 + a7) + 256 * (a5 + a6 + a7) + 65536 * (a6 + a7 + 256 * a7) := dv _ (by omega)
  rw [q5]
  clear q5
  have q6 : (a0 + a1 + a2 + a3 + 256 * (a1 + a2 + a3 + a4) + 65536 * (a2 + a3 + a4 + a5 + 256 * (a3 + a4 + a5 + a6))) + 4294967296 * ((a4 + a5 + a6 + a7) + 256 * (a5 + a6 + a7) + 65536 * (a6 + a7 + 256 * a7)) + ((a4 + a5 + a6 + a7) + 256 * (a5 + a6 + a7) + 65536 * (a6 + a7 + 256 * a7)) = (a0 + a1 + a2 + a3 + a4 + a5 + a6 + a7) + 128 * (2 * (a1 + a2 + a3 + a4) + 512 * (a2 + a3 + a4 + a5 + 256 * (a3 + a4 + a5 + a6)) + 33554432 * ((a4 + a5 + a6 + a7) + 256 * (a5 + a6 + a7) + 65536 * (a6 + a7 + 256 * a7)) + 2 * (a5 + a6 + a7) + 512 * (a6 + a7 + 256 * a7)) := by omega
  constructor
  · clear q6
    omega
  · have h8 : a0 + a1 + a2 + a3 + a4 + a5 + a6 + a7 < 128 := by clear q6; omega
    refine Eq.trans (congrArg (fun z => z % 128) q6) (Eq.trans (Nat.add_mul_mod_self_left _ _ _) (Eq.trans (Nat.mod_eq_of_lt h8) ?_))
    clear q6 h8
    omega
