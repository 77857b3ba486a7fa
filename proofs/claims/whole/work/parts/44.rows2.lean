/-! rows for the reference: numbers against 0, booleans in arrays; its cells -/
section MYR2
variable {p : Program} {l : Launch} {e : Env} {R : Room} {s : State} {m : MethodId} {args : Array Value} {below : List Frame} {meth : Method} {c : Code} {H : Heap} {locs : List Loc} {cells slots : Nat} {Q : State → Prop}
variable {cc : ByteArray} {pc : Nat} {ls : Array Slot} {rest : List Value}
theorem k_zeq {x : Int32} {a : Nat} {off : Int} {tgt : Nat} (hexec : p.tables.exec = Jvm.exec) (hb : c.code = cc) (ex : x = nI a) (ha : a < 2 ^ 31) (hdg : decode cc pc = .ok (.ifCond .eq off, 3)) (ht : (pc : Int) + off = (tgt : Int))
    (kt : a = 0 → W p l e R s m args below meth c H locs cells slots Q (F0 m tgt ls rest)) (kf : ¬ a = 0 → W p l e R s m args below meth c H locs cells slots Q (F0 m (pc + 3) ls rest)) : W p l e R s m args below meth c H locs cells slots Q (F0 m pc ls (.int x :: rest)) := by
  subst ex
  exact lv_if_eq hexec hb hdg ht (fun h => kt ((nI_eq ha (by decide)).mp h)) (fun h => kf (fun q => h (by rw [q]; rfl)))
theorem k_zne {x : Int32} {a : Nat} {off : Int} {tgt : Nat} (hexec : p.tables.exec = Jvm.exec) (hb : c.code = cc) (ex : x = nI a) (ha : a < 2 ^ 31) (hdg : decode cc pc = .ok (.ifCond .ne off, 3)) (ht : (pc : Int) + off = (tgt : Int))
    (kt : ¬ a = 0 → W p l e R s m args below meth c H locs cells slots Q (F0 m tgt ls rest)) (kf : a = 0 → W p l e R s m args below meth c H locs cells slots Q (F0 m (pc + 3) ls rest)) : W p l e R s m args below meth c H locs cells slots Q (F0 m pc ls (.int x :: rest)) := by
  subst ex
  exact lv_if_ne hexec hb hdg ht (fun h => kt (fun q => h (by rw [q]; rfl))) (fun h => kf ((nI_eq ha (by decide)).mp h))
theorem k_zle {x : Int32} {a : Nat} {off : Int} {tgt : Nat} (hexec : p.tables.exec = Jvm.exec) (hb : c.code = cc) (ex : x = nI a) (ha : a < 2 ^ 31) (hdg : decode cc pc = .ok (.ifCond .le off, 3)) (ht : (pc : Int) + off = (tgt : Int))
    (kt : a = 0 → W p l e R s m args below meth c H locs cells slots Q (F0 m tgt ls rest)) (kf : 0 < a → W p l e R s m args below meth c H locs cells slots Q (F0 m (pc + 3) ls rest)) : W p l e R s m args below meth c H locs cells slots Q (F0 m pc ls (.int x :: rest)) := by
  subst ex
  refine lv_if_le hexec hb hdg ht (fun h => kt ?_) (fun h => kf ?_)
  · have := (nI_leI (a := a) (b := 0) ha (by decide)).mp h; omega
  · rcases Nat.eq_zero_or_pos a with q | q
    · exact absurd (by rw [q]; decide) h
    · exact q
theorem k_zald {D : va_G} {cl : List vw_C} {a : Nat} {tys : List (ClassId × FieldType)} {ws : va_W} (hexec : p.tables.exec = Jvm.exec) (hb : c.code = cc) (hK : va_K D cl tys s) (hP : va_P D cl ws H) (q0 t0 : Nat) {cA : ClassId} {n : Nat} {f : Nat → Int32} (ha : ws[q0]? = some (a, .inl (cA, n, .inl f))) (ht : tys[t0]? = some (cA, .boolean)) {x : Int32} {k : Nat} (ex : x = nI k) (hk : k < n) (hn : n < 2 ^ 31) (hdg : decode cc pc = .ok (.baload, 1))
    (kk : W p l e R s m args below meth c H locs cells slots Q (F0 m (pc + 1) ls (.int (f k) :: rest))) : W p l e R s m args below meth c H locs cells slots Q (F0 m pc ls (.int x :: .ref a :: rest)) := by
  subst ex
  refine va_zald hexec hb hK hP q0 t0 ha ht (vp_in_nI hk hn) hdg ?_
  rw [nI_clamp (by omega)]
  exact kk
theorem k_zast {D : va_G} {cl : List vw_C} {a : Nat} {tys : List (ClassId × FieldType)} {ws : va_W} {A : Nat → Prop} {H0 : Heap} (hexec : p.tables.exec = Jvm.exec) (hb : c.code = cc) (hK : va_K D cl tys s) (hP : va_P D cl ws H) (hD : va_D A ws) (hS : va_S A H0 H locs) (q0 t0 : Nat) {cA : ClassId} {n : Nat} {f : Nat → Int32} (ha : ws[q0]? = some (a, .inl (cA, n, .inl f))) (ht : tys[t0]? = some (cA, .boolean)) {y x : Int32} {k : Nat} (ex : y = nI k) (hx01 : vp_nar .boolean x = x) (hk : k < n) (hn : n < 2 ^ 31) (hdg : decode cc pc = .ok (.bastore, 1))
    (kk : ∀ (H1 : Heap) (locs1 : List Loc), va_P D cl (ws.set q0 (a, .inl (cA, n, .inl (upd f k x)))) H1 → va_D A (ws.set q0 (a, .inl (cA, n, .inl (upd f k x)))) → va_S A H0 H1 locs1 → W p l e R s m args below meth c H1 locs1 cells slots Q (F0 m (pc + 1) ls rest)) : W p l e R s m args below meth c H locs cells slots Q (F0 m pc ls (.int x :: .int y :: .ref a :: rest)) := by
  subst ex
  refine va_zast hexec hb hK hP hD hS q0 t0 ha ht (vp_in_nI hk hn) hdg ?_
  rw [nI_clamp (by omega), hx01]
  exact kk
end MYR2
abbrev eZ (n : Nat) (ca : ClassId) (f : Nat → Int32) : va_E := .inl (ca, n, .inl f)
abbrev eM (ad : Nat → Nat) (thr inn oun man kno cho kep dep cam csz : Int32) (clo chi : Int64) : va_E := .inr (4, [.int thr, .int inn, .int oun, .ref (ad 21), .ref (ad 22), .int man, .ref (ad 23), .ref (ad 24), .ref (ad 25), .ref (ad 26), .ref (ad 27), .int kno, .int cho, .ref (ad 28), .ref (ad 29), .ref (ad 30), .ref (ad 31), .ref (ad 32), .ref (ad 33), .ref (ad 34), .int kep, .ref (ad 35), .ref (ad 36), .ref (ad 37), .ref (ad 38), .ref (ad 39), .ref (ad 40), .ref (ad 41), .int dep, .int cam, .int csz, .long clo, .long chi])
/-- (v >> o & 1) == 1, of a small number -/
theorem bit_one {v o : Nat} (hv : v < 2 ^ 31) (ho : o < 31) : (nI v >>> (nI o &&& 31)) &&& 1 = 1 ↔ v.testBit o = true := by
  have hs : ∀ o, o < 31 → ((nI o &&& 31).toBitVec.smod 32).toNat = o := by decide +kernel
  rw [pk_shrN hv (nI o &&& 31) o (hs o ho), pk_andN (m := 1) (Nat.lt_of_le_of_lt (Nat.div_le_self _ _) (by omega)) 1 rfl]
  have h2 : v / 2 ^ o % 2 ^ 1 < 2 ^ 31 := Nat.lt_of_lt_of_le (Nat.mod_lt _ (by decide)) (by decide)
  rw [show (1 : Int32) = nI 1 from rfl, nI_eq h2 (by decide), Nat.testBit_eq_decide_div_mod_eq, decide_eq_true_eq]
theorem bit_none {v o : Nat} (hv : v < 2 ^ 31) (ho : o < 31) : ¬ (nI v >>> (nI o &&& 31)) &&& 1 = 1 ↔ v.testBit o = false := by
  rw [bit_one hv ho]; simp
theorem sh_one {n : Nat} (h : n ≤ 4) : (1 : Int32) <<< (nI n &&& 31) = nI (2 ^ n) := by
  have : ∀ n, n < 5 → (1 : Int32) <<< (nI n &&& 31) = nI (2 ^ n) := by decide +kernel
  exact this n (by omega)
theorem p2_16 {n : Nat} (h : n ≤ 4) : 2 ^ n ≤ 16 := by
  have : ∀ n, n < 5 → 2 ^ n ≤ 16 := by decide
  exact this n (by omega)
-- the reference's functions
def mo_isf (pn vv : Nat) : Nat → Bool → Bool := fun k a => a && (decide (pn / 3 ^ k % 3 = 0) || (decide (pn / 3 ^ k % 3 = 1) == vv.testBit k))
theorem mo_isf_s (pn vv k : Nat) (a : Bool) : mo_isf pn vv k a = (a && (decide (pn / 3 ^ k % 3 = 0) || (decide (pn / 3 ^ k % 3 = 1) == vv.testBit k))) := rfl
def mo_onf (pn nn : Nat) : Nat → Int32 → Int32 := fun v a => if fo (mo_isf pn v) nn true = true then a ||| (1 <<< (nI v &&& 31)) else a
theorem mo_onf_t {pn nn v : Nat} (h : fo (mo_isf pn v) nn true = true) (a : Int32) : mo_onf pn nn v a = a ||| (1 <<< (nI v &&& 31)) := if_pos h
theorem mo_onf_f {pn nn v : Nat} (h : fo (mo_isf pn v) nn true = false) (a : Int32) : mo_onf pn nn v a = a := if_neg (by rw [h]; decide)
/-- the inputs for which product pn is 1 -/
def mo_on (nn pn : Nat) : Int32 := fo (mo_onf pn nn) (2 ^ nn) 0
def mo_ouf (w : Int32) (one any : Nat → Int32) : Nat → Int32 → Int32 := fun o a => if w &&& ((one o ||| any o) ^^^ (-1)) = 0 then a ||| (1 <<< (nI o &&& 31)) else a
def mo_out (nn mo : Nat) (one any : Nat → Int32) (pn : Nat) : Int32 := fo (mo_ouf (mo_on nn pn) one any) mo 0
def mo_caf (nn mo : Nat) (one any : Nat → Int32) (pn : Nat) : Nat → Bool → Bool := fun k a => a && (decide (pn / 3 ^ k % 3 = 0) || !decide (mo_out nn mo one any (pn - pn / 3 ^ k % 3 * 3 ^ k) = mo_out nn mo one any pn))
theorem mo_caf_s (nn mo : Nat) (one any : Nat → Int32) (pn k : Nat) (a : Bool) : mo_caf nn mo one any pn k a = (a && (decide (pn / 3 ^ k % 3 = 0) || !decide (mo_out nn mo one any (pn - pn / 3 ^ k % 3 * 3 ^ k) = mo_out nn mo one any pn))) := rfl
def mo_ca (nn mo : Nat) (one any : Nat → Int32) (pn : Nat) : Bool := fo (mo_caf nn mo one any pn) nn (!decide (mo_out nn mo one any pn = 0))
def mo_paf (pn : Nat) : Nat → Nat → Nat := fun k a => if 0 < pn / 3 ^ k % 3 then a + 1 else a
def mo_pa (nn pn : Nat) : Nat := fo (mo_paf pn) nn 0
theorem mo_pa_le (pn : Nat) : ∀ n, fo (mo_paf pn) n 0 ≤ n := by
  intro n
  induction n with
  | zero => exact Nat.le_refl 0
  | succ n ih =>
    rw [fo_s]
    generalize fo (mo_paf pn) n 0 = a at ih ⊢
    unfold mo_paf
    split <;> omega
def mo_nef (cov : Nat → Int32) (k : Nat) : Nat → Int32 → Int32 := fun j a => if j = k then a else a ||| cov j
theorem pow3_le {k : Nat} (h : k ≤ 4) : 3 ^ k ≤ 81 := tpow_81 h
theorem dig_le (p k : Nat) : p / 3 ^ k % 3 * 3 ^ k ≤ p := wop_le p k
