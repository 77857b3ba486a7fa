section MYR3
variable {p : Program} {l : Launch} {e : Env} {R : Room} {s : State} {m : MethodId} {args : Array Value} {below : List Frame} {meth : Method} {c : Code} {H : Heap} {locs : List Loc} {cells slots : Nat} {Q : State → Prop}
variable {cc : ByteArray} {pc : Nat} {ls : Array Slot} {rest : List Value}
theorem zb_test1 (x : Int64) {i : Nat} (h : i < 64) : (x >>> ((nI i).toInt64 &&& 63)) &&& 1 = 1 ↔ zb x i = true := by
  constructor
  · intro h1
    cases hz : zb x i with
    | true => rfl
    | false => rw [(zb_test x h).mpr hz] at h1; exact absurd h1 (by decide)
  · intro h1
    apply zb_ext
    intro j hj
    rw [zb_and, zb_1]
    by_cases hj0 : j = 0
    · subst hj0; rw [zb_sar x h, h1]; rfl
    · simp [hj0]
/-- lshr; lconst_1; land; lconst_1; lcmp; ifne -/
theorem k_bit1 {x : Int64} {y : Int32} {i : Nat} {off : Int} {tgt : Nat} (hexec : p.tables.exec = Jvm.exec) (hb : c.code = cc) (ey : y = nI i) (hi : i < 64) (d0 : decode cc pc = .ok (.lshr, 1)) (d1 : decode cc (pc + 1) = .ok (.lconst 1, 1)) (d2 : decode cc (pc + 2) = .ok (.land, 1)) (d3 : decode cc (pc + 3) = .ok (.lconst 1, 1)) (d4 : decode cc (pc + 4) = .ok (.lcmp, 1)) (d5 : decode cc (pc + 5) = .ok (.ifCond .ne off, 3)) (ht : ((pc + 5 : Nat) : Int) + off = (tgt : Int))
    (kt : zb x i = false → W p l e R s m args below meth c H locs cells slots Q (F0 m tgt ls rest)) (kf : zb x i = true → W p l e R s m args below meth c H locs cells slots Q (F0 m (pc + 5 + 3) ls rest)) : W p l e R s m args below meth c H locs cells slots Q (F0 m pc ls (.int y :: .long x :: rest)) := by
  subst ey
  refine lv_lshr hexec hb d0 rfl ?_
  refine lv_lconst (v := 1) hexec hb d1 rfl ?_
  refine lv_land hexec hb d2 ?_
  refine lv_lconst (v := 1) hexec hb d3 rfl ?_
  refine k_lne hexec hb d4 d5 ht (fun h => kt ?_) (fun h => kf ((zb_test1 x hi).mp h))
  cases hz : zb x i with
  | false => rfl
  | true => exact absurd ((zb_test1 x hi).mpr hz) h
end MYR3
def sel {α : Type} (b : Bool) (x y : α) : α := if b = true then x else y
theorem sel_t {α : Type} {b : Bool} {x y : α} (h : b = true) : sel b x y = x := if_pos h
theorem sel_f {α : Type} {b : Bool} {x y : α} (h : b = false) : sel b x y = y := if_neg (by rw [h]; decide)
def mo_gone (lo hi : Int64) (k : Nat) : Bool := if k < 41 then zb lo k else zb hi (k - 41)
def mo_cbf (num cov : Nat → Int32) (fm : Int32) (lo hi : Int64) : Nat → Int32 → Int32 := fun k a => if num k < fm then a else if mo_gone lo hi k = true then a else a ||| cov k
def mo_cb (num cov : Nat → Int32) (mn : Nat) (fm : Int32) (lo hi : Int64) : Int32 := fo (mo_cbf num cov fm lo hi) mn 0
def mo_bg (i1 o1 : Int32) : Bool := (!decide (i1 < 1) && !decide (4 < i1)) && (!decide (o1 < 1) && !decide (2 < o1))
