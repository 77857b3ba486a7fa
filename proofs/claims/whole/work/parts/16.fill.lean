/-! filling the table of candidates, as functions of numbers -/
def mc_oof (pin zer : Nat → Int32) (mo : Nat) : Nat → (Nat → Int32) → (Nat → Int32) := fun p f => upd f p (fo (mc_outf (pin p) zer) mo 0)
abbrev FT : Type := Nat × (Nat → Int32) × (Nat → Int32) × (Nat → Int32) × (Nat → Int32) × (Nat → Int64)
def mc_filf (one pin psz oop : Nat → Int32) : Nat → FT → FT := fun p a => if mc_isc oop p = true then (a.1 + 1, upd a.2.1 a.1 (nI p), upd a.2.2.1 a.1 (oop p), upd a.2.2.2.1 a.1 (psz p), upd a.2.2.2.2.1 a.1 (pin p), vp_updL a.2.2.2.2.2 a.1 (mc_pla one (pin p) (oop p))) else a
theorem mc_filf_t {one pin psz oop : Nat → Int32} {p : Nat} (h : mc_isc oop p = true) (a : FT) : mc_filf one pin psz oop p a = (a.1 + 1, upd a.2.1 a.1 (nI p), upd a.2.2.1 a.1 (oop p), upd a.2.2.2.1 a.1 (psz p), upd a.2.2.2.2.1 a.1 (pin p), vp_updL a.2.2.2.2.2 a.1 (mc_pla one (pin p) (oop p))) := if_pos h
theorem mc_filf_f {one pin psz oop : Nat → Int32} {p : Nat} (h : mc_isc oop p = false) (a : FT) : mc_filf one pin psz oop p a = a := if_neg (by rw [h]; decide)
def mc_lon (pla : Nat → Int64) (cn : Nat) : Int64 := (fo (mc_lonf pla) cn (0, 0)).1 &&& ((fo (mc_lonf pla) cn (0, 0)).2 ^^^ (-1))
def mc_setf (v : Int32) : Nat → (Nat → Int32) → (Nat → Int32) := fun o f => upd f o v
def mc_all (ic : Int32) : Int32 := ((1 : Int32) <<< (((1 : Int32) <<< (ic &&& 31)) &&& 31)) - 1
