/-! what the class's methods answer, as functions of numbers -/
def mc_covf (pla : Nat → Int64) (sm : Int64) : Nat → Int64 → Int64 := fun i a => if zb sm i = true then a ||| pla i else a
def mc_svf (pla : Nat → Int64) (q : Nat) : Nat → Int64 → Int64 := fun i a => a ||| (((pla i >>> ((nI q).toInt64 &&& 63)) &&& 1) <<< ((nI i).toInt64 &&& 63))
def mc_outf (w : Int32) (zer : Nat → Int32) : Nat → Int32 → Int32 := fun o a => if w &&& zer o = 0 then a ||| (1 <<< (nI o &&& 31)) else a
def mc_plf (f : Nat → Int32) (wh : Int32) : Nat → Int64 → Int64 := fun o a => if (wh >>> (nI o &&& 31)) &&& 1 = 0 then a else a ||| ((f o).toInt64 <<< ((nI (16 * o)).toInt64 &&& 63))
def mc_wideP (oop : Nat → Int32) (p k : Nat) : Bool := !decide (wop p k = p) && decide (oop (wop p k) = oop p)
def mc_isc (oop : Nat → Int32) (p : Nat) : Bool := !decide (oop p = 0) && !exn 4 (mc_wideP oop p)
/-- an unsigned shift to the right -/
def ush (x : Int64) (k : Int32) : Int64 := (x.toUInt64 >>> (k.toInt64.toUInt64 &&& Int64.toUInt64 63)).toInt64
theorem wb_uc : ∀ k, k < 64 → ((nI k).toInt64.toUInt64 &&& Int64.toUInt64 63) = UInt64.ofNat k := by decide +kernel
def nL (x : Int64) : Nat := x.toBitVec.toNat
theorem nL_lt (x : Int64) : nL x < 2 ^ 64 := x.toBitVec.isLt
theorem nL_zb (x : Int64) (i : Nat) : zb x i = (nL x).testBit i := rfl
theorem nL_and (x y : Int64) : nL (x &&& y) = nL x &&& nL y := by simp [nL]
theorem nL_add (x y : Int64) : nL (x + y) = (nL x + nL y) % 2 ^ 64 := by simp [nL]
theorem nL_sub {x y : Int64} (h : nL y ≤ nL x) : nL (x - y) = nL x - nL y := by
  have h1 := nL_lt x
  have h2 := nL_lt y
  unfold nL at *
  rw [Int64.toBitVec_sub, BitVec.toNat_sub]
  omega
theorem nL_ush (x : Int64) {k : Nat} (hk : k < 64) : nL (ush x (nI k)) = nL x / 2 ^ k := by
  unfold nL ush
  rw [wb_uc k hk]
  have e : (UInt64.ofNat k).toNat = k := by simp [UInt64.toNat_ofNat]; omega
  simp [Nat.shiftRight_eq_div_pow, e, Nat.mod_eq_of_lt hk]
def mp1 (x : Int64) : Int64 := x - (ush x 1 &&& 6148914691236517205)
def mp2 (x : Int64) : Int64 := (x &&& 3689348814741910323) + (ush x 2 &&& 3689348814741910323)
def mp3 (x : Int64) : Int64 := (x + ush x 4) &&& 1085102592571150095
def mp4 (x : Int64) : Int64 := x + ush x 8
def mp5 (x : Int64) : Int64 := x + ush x 16
def mp6 (x : Int64) : Int64 := x + ush x 32
/-- Long.bitCount -/
def m_pop (x : Int64) : Int32 := (mp6 (mp5 (mp4 (mp3 (mp2 (mp1 x)))))).toInt32 &&& 127
theorem mk85 : nL 6148914691236517205 = mk8 85 8 := by decide +kernel
theorem mk51 : nL 3689348814741910323 = mk8 51 8 := by decide +kernel
theorem mk15 : nL 1085102592571150095 = mk8 15 8 := by decide +kernel
theorem m_pop_ok (x : Int64) : m_pop x = nI (cnt (zb x) 64) := by
  have hx := nL_lt x
  have h1 : nL (mp1 x) = bs1 (mk8 85 8) (nL x) := by
    have e : nL (ush x 1 &&& 6148914691236517205) = nL x / 2 &&& mk8 85 8 := by
      rw [nL_and, mk85, show (1 : Int32) = nI 1 from rfl, nL_ush x (by omega)]
    unfold mp1 bs1
    rw [nL_sub (by rw [e]; exact Nat.le_trans Nat.and_le_left (by omega)), e]
  have h2 : nL (mp2 (mp1 x)) = bs2 (mk8 51 8) (nL (mp1 x)) := by
    have hq := nL_lt (mp1 x)
    have b1 : nL (mp1 x) &&& mk8 51 8 ≤ mk8 51 8 := Nat.and_le_right
    have b2 : nL (mp1 x) / 4 &&& mk8 51 8 ≤ mk8 51 8 := Nat.and_le_right
    have b3 : mk8 51 8 < 2 ^ 62 := by decide +kernel
    unfold mp2 bs2
    rw [nL_add, nL_and, nL_and, mk51, show (2 : Int32) = nI 2 from rfl, nL_ush _ (by omega)]
    exact Nat.mod_eq_of_lt (by show _ + (_ / 4 &&& _) < _; omega)
  have h3 : nL (mp3 (mp2 (mp1 x))) = bs3 (mk8 15 8) (nL (mp2 (mp1 x))) := by
    have b3 : mk8 51 8 < 2 ^ 62 := by decide +kernel
    have b4 : nL (mp2 (mp1 x)) < 2 ^ 63 := by
      rw [h2]; unfold bs2
      have b1 : nL (mp1 x) &&& mk8 51 8 ≤ mk8 51 8 := Nat.and_le_right
      have b2 : nL (mp1 x) / 4 &&& mk8 51 8 ≤ mk8 51 8 := Nat.and_le_right
      omega
    unfold mp3 bs3
    rw [nL_and, nL_add, mk15, show (4 : Int32) = nI 4 from rfl, nL_ush _ (by omega)]
    rw [Nat.mod_eq_of_lt (by show _ + _ / 16 < _; omega)]
  have h4 : nL (mp3 (mp2 (mp1 x))) = rp8 8 (nL x) := by rw [h3, h2, h1, bs_all]
  obtain ⟨hb, hp⟩ := pop_nat hx
  generalize hy : mp3 (mp2 (mp1 x)) = y at h4
  have h5 : nL (mp4 y) = bs4 (nL y) := by
    unfold mp4 bs4
    rw [nL_add, show (8 : Int32) = nI 8 from rfl, nL_ush _ (by omega)]
    exact Nat.mod_eq_of_lt (by show _ + _ / 256 < _; omega)
  have h6 : nL (mp5 (mp4 y)) = bs5 (nL (mp4 y)) := by
    have : nL (mp4 y) < 2 ^ 61 := by rw [h5]; unfold bs4; omega
    unfold mp5 bs5
    rw [nL_add, show (16 : Int32) = nI 16 from rfl, nL_ush _ (by omega)]
    exact Nat.mod_eq_of_lt (by show _ + _ / 65536 < _; omega)
  have h7 : nL (mp6 (mp5 (mp4 y))) = bs6 (nL (mp5 (mp4 y))) := by
    have : nL (mp5 (mp4 y)) < 2 ^ 62 := by rw [h6, h5]; unfold bs5 bs4; omega
    unfold mp6 bs6
    rw [nL_add, show (32 : Int32) = nI 32 from rfl, nL_ush _ (by omega)]
    exact Nat.mod_eq_of_lt (by show _ + _ / 4294967296 < _; omega)
  have e : cnt (zb x) 64 = cnt (Nat.testBit (nL x)) 64 := rfl
  rw [e, ← hp, ← h4, ← h5, ← h6, ← h7]
  unfold m_pop
  rw [hy, pk_and _ 7 rfl]
  generalize mp6 (mp5 (mp4 y)) = z
  have ez : z.toInt32.toBitVec.toNat = nL z % 2 ^ 32 := by
    unfold nL
    rw [Int64.toBitVec_toInt32]
    simp [BitVec.signExtend_eq_setWidth_of_le]
  rw [ez]
  congr 1
  omega
def mc_lonf (pla : Nat → Int64) : Nat → Int64 × Int64 → Int64 × Int64 := fun i a => (a.1 ||| pla i, a.2 ||| (a.1 &&& pla i))
/-- the bits of a place that a candidate at product p serves -/
def mc_pla (one : Nat → Int32) (w ou : Int32) : Int64 := ((w.toInt64 <<< ((16 : Int32).toInt64 &&& 63)) ||| w.toInt64) &&& fo (mc_plf one ou) 2 0
def mc_lbf (bs : Int64) (siz : Nat → Int32) : Nat → (Nat → Int32) × Nat × Int32 → (Nat → Int32) × Nat × Int32 := fun i a => if zb bs i = true then (upd a.1 a.2.1 (nI i), a.2.1 + 1, a.2.2 + siz i) else a
def mc_wef (siz : Nat → Int32) : Nat → (Nat → Int32) → (Nat → Int32) := fun i f => upd f i (1000 + siz i)
def mc_sef (pla : Nat → Int64) (cn : Nat) : Nat → (Nat → Int64) → (Nat → Int64) := fun q f => vp_updL f q (fo (mc_svf pla q) cn 0)
def mc_thf (num : Nat → Int32) (fm : Int32) : Nat → Int64 → Int64 := fun i a => if num i < fm then a else a ||| zo i
def mc_th2f (pla : Nat → Int64) (due : Int64) (cn : Nat) : Nat → Int64 → Int64 := fun k a => if a &&& (zo (cn - 1 - k) ^^^ (-1)) = a then a else if decide (fo (mc_covf pla (a &&& (zo (cn - 1 - k) ^^^ (-1)))) cn 0 = due) = true then a &&& (zo (cn - 1 - k) ^^^ (-1)) else a
def mc_thin (num : Nat → Int32) (pla : Nat → Int64) (due : Int64) (cn : Nat) (fm : Int32) : Int32 := if decide (fo (mc_covf pla (fo (mc_thf num fm) cn 0)) cn 0 = due) = true then m_pop (fo (mc_th2f pla due cn) cn (fo (mc_thf num fm) cn 0)) else -1
theorem th_neg {cn k : Nat} (hc : cn ≤ 63) (hk : k ≤ cn) : nI (cn - k) - 1 < 0 ↔ cn = k := by
  rcases Nat.lt_or_ge k cn with h | h
  · have e : nI (cn - k) - 1 = nI (cn - 1 - k) := by
      rw [show cn - k = (cn - 1 - k) + 1 by omega, nI_pred]
    rw [e]
    constructor
    · intro h1; exact absurd h1 (nI_pos (by omega))
    · intro h1; omega
  · have : cn = k := by omega
    subst this
    rw [Nat.sub_self]
    exact ⟨fun _ => rfl, fun _ => by decide⟩
theorem th_idx {cn k : Nat} (hk : k < cn) : nI (cn - k) - 1 = nI (cn - 1 - k) := by
  rw [show cn - k = (cn - 1 - k) + 1 by omega, nI_pred]
def mc_oneP (bs : Int64) (out inp : Nat → Int32) (oo xx : Int32) (k : Nat) : Bool := zb bs k && (!decide ((out k >>> (oo &&& 31)) &&& 1 = 0) && !decide ((inp k >>> (xx &&& 31)) &&& 1 = 0))
theorem zb_tzn (x : Int64) {i : Nat} (h : i < 64) : ¬ x &&& zo i = 0 ↔ zb x i = true := by
  rw [zb_tz x h]; simp
