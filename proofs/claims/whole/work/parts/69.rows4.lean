/-! contracts whose end is told by some value: calls, ends; a frame of the reference's search in a walk -/
/-- the end of a method that answers nothing: for some u with 'post', the cells are w u -/
def kw_Qe {S : Type} (D : va_G) (cl : List vw_C) (tys : List (ClassId × FieldType)) (A : Nat → Prop) (post : S → Prop) (w : S → va_W) : Array Value → State → Outcome → State → Prop :=
  va_Qv post (fun u t => va_P D cl (w u) t.heap ∧ va_K D cl tys t ∧ va_D A (w u)) A
/-- .. and answers f u -/
def kw_Qf {S : Type} (D : va_G) (cl : List vw_C) (tys : List (ClassId × FieldType)) (A : Nat → Prop) (post : S → Prop) (w : S → va_W) (f : S → Int32) : Array Value → State → Outcome → State → Prop :=
  va_Qi (fun (r : Int32) (u : S) => post u ∧ r = f u) (fun u t => va_P D cl (w u) t.heap ∧ va_K D cl tys t ∧ va_D A (w u)) A
section MYE
variable {p : Program} {l : Launch} {e : Env} {R : Room} {s : State} {m : MethodId} {args : Array Value} {below : List Frame} {meth : Method} {c : Code} {H : Heap} {locs : List Loc} {cells slots : Nat} {Q : State → Prop}
variable {y : MethodName} {bytes cc : ByteArray} {maxL nL mc ms n index : Nat} {As rest st0 : List Value} {pc : Nat} {ls : Array Slot}
variable {D : va_G} {cl : List vw_C} {A0 : Nat → Prop} {H0 : Heap} {ww wc wr : va_W} {tysc : List (ClassId × FieldType)} {S : Type} {post : S → Prop} {w : S → va_W} {f : S → Int32}
theorem kw_calle {a : Array Value} (hr : va_Run p l e R s m args below meth c H locs cells slots mc ms (F0 m pc ls st0) rest (kw_Qe D cl tysc (va_A wc H.size) post w a) (va_A wc H.size)) (hP : va_P D cl ww H) (hD : va_D A0 ww) (hS : va_S A0 H0 H locs) (hA : ∀ q, H0.size ≤ q → A0 q) (isC isR : List Nat) (hC : isC.map (fun i => ww[i]?) = wc.map some) (hR : isR.map (fun i => ww[i]?) = wr.map some) (hn : va_nd isR = true) (hdis : ∀ i ∈ isR, i ∉ isC)
    (kk : ∀ (u : S), post u → ∀ (H1 : Heap) (locs1 : List Loc), va_P D cl (wr ++ w u) H1 → va_D A0 (wr ++ w u) → va_S A0 H0 H1 locs1 → W p l e R s m args below meth c H1 locs1 (cells + mc) (slots + ms) Q (F0 m (pc + 3) ls rest)) : W p l e R s m args below meth c H locs cells slots Q (F0 m pc ls st0) := by
  have hF := va_free hD hS hA isC hC
  refine va_callv hr hS (fun q _ h => hF q h) hF (fun u t H1 locs1 ht hvm hw hB hz1 hk1 hS1 => ?_)
  obtain ⟨hP1, -, hD1⟩ := hB
  rw [ht] at hP1
  obtain ⟨hP2, hD2⟩ := va_join hP hD isC isR hC hR hn hdis hk1 hF hP1 hD1
  exact kk u hw H1 locs1 hP2 hD2 hS1
theorem kw_callf {a : Array Value} (hr : va_Run p l e R s m args below meth c H locs cells slots mc ms (F0 m pc ls st0) rest (kw_Qf D cl tysc (va_A wc H.size) post w f a) (va_A wc H.size)) (hP : va_P D cl ww H) (hD : va_D A0 ww) (hS : va_S A0 H0 H locs) (hA : ∀ q, H0.size ≤ q → A0 q) (isC isR : List Nat) (hC : isC.map (fun i => ww[i]?) = wc.map some) (hR : isR.map (fun i => ww[i]?) = wr.map some) (hn : va_nd isR = true) (hdis : ∀ i ∈ isR, i ∉ isC)
    (kk : ∀ (u : S), post u → ∀ (H1 : Heap) (locs1 : List Loc), va_P D cl (wr ++ w u) H1 → va_D A0 (wr ++ w u) → va_S A0 H0 H1 locs1 → W p l e R s m args below meth c H1 locs1 (cells + mc) (slots + ms) Q (F0 m (pc + 3) ls (.int (f u) :: rest))) : W p l e R s m args below meth c H locs cells slots Q (F0 m pc ls st0) := by
  have hF := va_free hD hS hA isC hC
  refine va_calli hr hS (fun q _ h => hF q h) hF (fun r u t H1 locs1 ht hvm hw hB hz1 hk1 hS1 => ?_)
  obtain ⟨hP1, -, hD1⟩ := hB
  rw [ht] at hP1
  obtain ⟨hP2, hD2⟩ := va_join hP hD isC isR hC hR hn hdis hk1 hF hP1 hD1
  obtain ⟨hw1, hw2⟩ := hw
  subst hw2
  exact kk u hw1 H1 locs1 hP2 hD2 hS1
theorem kw_ende {tys : List (ClassId × FieldType)} {ww : va_W} {A : Nat → Prop} {t : State} (u : S) (hu : post u) (hP : va_P D cl ww H) (hD : va_D A ww) (hK : va_K D cl tys s) (hS : va_S A s.heap H locs) (is : List Nat) (h1 : is.filterMap (fun i => ww[i]?) = w u) (h2 : va_nd is = true) (h3 : is.map (fun i => ww[i]?) = (w u).map some) (ht : t.heap = H) (hW : s.vm.Alike t.vm) : kw_Qe D cl tys A post w args s (.returned none) t :=
  ⟨⟨u, rfl, hu, by rw [ht]; exact hP.sub is h1, va_K.moved hW hK, hD.sub is h2 h3⟩, hS.F ht⟩
theorem kw_endf {tys : List (ClassId × FieldType)} {ww : va_W} {A : Nat → Prop} {t : State} {v : Int32} (u : S) (hu : post u) (hv : v = f u) (hP : va_P D cl ww H) (hD : va_D A ww) (hK : va_K D cl tys s) (hS : va_S A s.heap H locs) (is : List Nat) (h1 : is.filterMap (fun i => ww[i]?) = w u) (h2 : va_nd is = true) (h3 : is.map (fun i => ww[i]?) = (w u).map some) (ht : t.heap = H) (hW : s.vm.Alike t.vm) : kw_Qf D cl tys A post w f args s (.returned (some (.int v))) t :=
  ⟨⟨v, u, rfl, ⟨hu, hv⟩, by rw [ht]; exact hP.sub is h1, va_K.moved hW hK, hD.sub is h2 h3⟩, hS.F ht⟩
theorem k_frame {mn : Nat} {cov pa : Nat → Int32} {pn : Nat → Nat} (hm : mn ≤ 81) (hp : ∀ j, j < mn → pa j = nI (pn j) ∧ pn j ≤ 4) (WS : MS → Heap → List Loc → Array Slot → Prop)
    (step : ∀ (ms : MS) (k0 pq rn : Nat), StepOK mn k0 pq rn ms → ∀ H locs ls, WS ms H locs ls → (∀ H' locs' ls', WS (mo_work mn cov pa k0 pq rn ms) H' locs' ls' → W p l e R s m args below meth c H' locs' cells slots Q (F0 m pc ls' rest)) → W p l e R s m args below meth c H locs cells slots Q (F0 m pc ls rest))
    (rn D : Nat) (lf : Int32) (pq k0 : Nat) (ms : MS) (hT : TopOK mn cov pa pn D lf rn pq k0 ms) (H : Heap) (locs : List Loc) (ls : Array Slot) (hW : WS ms H locs ls)
    (K : ∀ ms', Popped mn cov pn D lf rn ms ms' → ∀ H' locs' ls', WS ms' H' locs' ls' → W p l e R s m args below meth c H' locs' cells slots Q (F0 m pc ls' rest)) : W p l e R s m args below meth c H locs cells slots Q (F0 m pc ls rest) :=
  run_frame hm hp (fun ms => ∀ H locs ls, WS ms H locs ls → W p l e R s m args below meth c H locs cells slots Q (F0 m pc ls rest)) (fun ms k0 pq rn hok hd H locs ls hw => step ms k0 pq rn hok H locs ls hw hd) rn D lf pq k0 ms hT K H locs ls hW
end MYE
/-! the whole search of the reference -/
/-- lo, hi tell the least cover of lf: none has fewer candidates, and of those with as many none is better -/
def Sol (mn : Nat) (cov : Nat → Int32) (pn : Nat → Nat) (lf : Int32) (lo hi : Int64) : Prop :=
  ∃ rn, Tight mn cov lf rn ∧ Rep mn lo hi ∧ Cvn mn cov lf rn (mo_gone lo hi) ∧ ∀ T, Cvn mn cov lf rn T → ¬ Bet (sw pn T mn) T (sw pn (mo_gone lo hi) mn) (mo_gone lo hi)
/-- at the head of the loop over the rooms -/
def RoomOK (mn : Nat) (cov : Nat → Int32) (pn : Nat → Nat) (lf : Int32) (rv : Nat) (ms : MS) : Prop :=
  Memo mn cov pn ms.1 ∧ ((ms.2.2.2.2.1 < 0 ∧ Tight mn cov lf rv ∧ ¬ lf = 0) ∨ (¬ ms.2.2.2.2.1 < 0 ∧ Sol mn cov pn lf ms.2.2.2.2.2.1 ms.2.2.2.2.2.2))
theorem sol_of {mn rn : Nat} {cov : Nat → Int32} {pn : Nat → Nat} {lf z : Int32} {lo hi : Int64} (ht : Tight mn cov lf rn) (hb : Bst mn pn (Cvn mn cov lf rn) z lo hi) (hz : ¬ z < 0) : Sol mn cov pn lf lo hi := by
  rcases hb with ⟨e, -⟩ | ⟨a, b, -, d⟩
  · exact absurd (by rw [e]; decide) hz
  · exact ⟨rn, ht, a, b, d⟩
theorem tight_next {mn rn : Nat} {cov : Nat → Int32} {lf : Int32} (ht : Tight mn cov lf rn) (h : ∀ T, ¬ Cvn mn cov lf rn T) : Tight mn cov lf (rn + 1) := by
  intro T hT
  have h1 := ht T hT
  rcases Nat.eq_or_lt_of_le h1 with q | q
  · exact absurd ⟨hT, q.symm⟩ (h T)
  · exact q
theorem room_next {mn rn : Nat} {cov : Nat → Int32} {pn : Nat → Nat} {lf : Int32} {ms : MS} (hm : mn ≤ 81) (hp : ∀ j, j < mn → pn j ≤ 4) (hM : Memo mn cov pn ms.1) (ht : Tight mn cov lf rn) (h0 : ¬ lf = 0) (hb : Bst mn pn (Cvn mn cov lf rn) ms.2.2.2.2.1 ms.2.2.2.2.2.1 ms.2.2.2.2.2.2) : RoomOK mn cov pn lf (rn + 1) ms := by
  refine ⟨hM, ?_⟩
  rcases hb with ⟨e, hno⟩ | ⟨a, b, cz, d⟩
  · exact Or.inl ⟨by rw [e]; decide, tight_next ht hno, h0⟩
  · refine Or.inr ⟨?_, rn, ht, a, b, d⟩
    rw [cz]
    have := sw_324 hm hp (mo_gone ms.2.2.2.2.2.1 ms.2.2.2.2.2.2)
    exact nI_pos (by omega)
/-- where all candidates together serve, 32 of them do -/
theorem cv_32 {mn : Nat} {cov : Nat → Int32} {lf : Int32} (h : Cv mn cov lf (fun k => decide (k < mn))) : ∃ T, Cv mn cov lf T ∧ cnt T mn ≤ 32 := by
  have key : ∀ n, n ≤ 32 → ∃ T : Nat → Bool, (∀ k, T k = true → k < mn) ∧ cnt T mn ≤ n ∧ ∀ q, q < n → ib lf q = true → ∃ k, k < mn ∧ T k = true ∧ ib (cov k) q = true := by
    intro n
    induction n with
    | zero => intro _; exact ⟨fun _ => false, fun k hk => (by cases hk), by rw [cnt_empty (fun _ => rfl)]; exact Nat.le_refl 0, fun q hq => absurd hq (Nat.not_lt_zero _)⟩
    | succ n ih =>
      intro hn
      obtain ⟨T, a, b, d⟩ := ih (by omega)
      cases hb : ib lf n with
      | false =>
        refine ⟨T, a, by omega, fun q hq hl => ?_⟩
        rcases Nat.lt_or_ge q n with r | r
        · exact d q r hl
        · have : q = n := by omega
          subst this; rw [hb] at hl; cases hl
      | true =>
        obtain ⟨k, k1, k2, k3⟩ := h.2 n (by omega) hb
        refine ⟨su T k true, fun j hj => ?_, ?_, fun q hq hl => ?_⟩
        · by_cases e : j = k
          · omega
          · rw [su_n _ _ e] at hj; exact a j hj
        · have h2 := cnt_su (S := T) (i := k) (b := true) k1
          simp at h2
          omega
        · rcases Nat.lt_or_ge q n with r | r
          · obtain ⟨j, j1, j2, j3⟩ := d q r hl
            refine ⟨j, j1, ?_, j3⟩
            by_cases e : j = k
            · subst e; exact su_s _ _ _
            · rw [su_n _ _ e]; exact j2
          · have : q = n := by omega
            subst this
            exact ⟨k, k1, su_s _ _ _, k3⟩
  obtain ⟨T, a, b, d⟩ := key 32 (Nat.le_refl _)
  exact ⟨T, ⟨a, d⟩, b⟩
theorem room_32 {mn rv : Nat} {cov : Nat → Int32} {lf : Int32} (h : Cv mn cov lf (fun k => decide (k < mn))) (ht : Tight mn cov lf rv) : rv ≤ 32 := by
  obtain ⟨T, a, b⟩ := cv_32 h
  have := ht T a
  omega
theorem tight_1 {mn : Nat} {cov : Nat → Int32} {lf : Int32} (h0 : ¬ lf = 0) : Tight mn cov lf 1 := by
  intro T hT
  obtain ⟨q, hq, hb⟩ := ib_ne0 h0
  obtain ⟨k, k1, k2, -⟩ := hT.2 q hq hb
  rcases Nat.eq_zero_or_pos (cnt T mn) with z | z
  · rw [cnt_none z k1] at k2; cases k2
  · exact z
theorem memo_new {mn : Nat} {cov : Nat → Int32} {pn : Nat → Nat} {le ro si : Nat → Int32} {lw hg : Nat → Int64} {th : Nat → Int32} (h : ∀ a, a < 65536 → th a = 0) : Memo mn cov pn (th, le, ro, si, lw, hg, 0) := by
  refine ⟨fun a ha ht => absurd (h a ha) ht, ?_, Nat.zero_le _⟩
  show cnt (fun a => !decide (th a = 0)) 65536 ≤ 0
  have key : ∀ n, n ≤ 65536 → cnt (fun a => !decide (th a = 0)) n = 0 := by
    intro n
    induction n with
    | zero => intro _; rfl
    | succ n ih => intro hn; rw [cnt_s, ih (by omega), h n (by omega)]; rfl
  rw [key 65536 (Nat.le_refl _)]
  exact Nat.le_refl 0
theorem setf_at {v : Int32} {f : Nat → Int32} : ∀ n a, a < n → fo (mc_setf v) n f a = v := by
  intro n
  induction n with
  | zero => intro a h; exact absurd h (Nat.not_lt_zero _)
  | succ n ih =>
    intro a h
    rw [fo_s]
    unfold mc_setf
    by_cases e : a = n
    · subst e; exact pk_us
    · exact (pk_un e).trans (ih a (by omega))
def mo_chf (lo hi : Int64) : Nat → (Nat → Int32) × Nat → (Nat → Int32) × Nat := fun k a => if mo_gone lo hi k = true then (upd a.1 a.2 (nI k), a.2 + 1) else a
theorem mo_chf_t {lo hi : Int64} {k : Nat} (h : mo_gone lo hi k = true) (a : (Nat → Int32) × Nat) : mo_chf lo hi k a = (upd a.1 a.2 (nI k), a.2 + 1) := if_pos h
theorem mo_chf_f {lo hi : Int64} {k : Nat} (h : mo_gone lo hi k = false) (a : (Nat → Int32) × Nat) : mo_chf lo hi k a = a := if_neg (by rw [h]; decide)
theorem mo_chf_le (lo hi : Int64) (f : Nat → Int32) : ∀ n, (fo (mo_chf lo hi) n (f, 0)).2 ≤ n := by
  intro n
  induction n with
  | zero => exact Nat.le_refl 0
  | succ n ih =>
    rw [fo_s]
    cases h : mo_gone lo hi n with
    | true => rw [mo_chf_t h]; show _ + 1 ≤ n + 1; omega
    | false => rw [mo_chf_f h]; omega
/-- what the search leaves: the choice and how many it has -/
def SolOK (mn : Nat) (cov : Nat → Int32) (pn : Nat → Nat) (lf : Int32) (chc : Nat → Int32) (u : MS × (Nat → Int32) × Nat) : Prop :=
  ∃ lo hi, Sol mn cov pn lf lo hi ∧ u.2.1 = (fo (mo_chf lo hi) mn (chc, 0)).1 ∧ u.2.2 = (fo (mo_chf lo hi) mn (chc, 0)).2
def mo_left (one : Nat → Int32) : Int32 := one 0 ||| (one 1 <<< (16 &&& 31))
