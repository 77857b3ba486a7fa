/-! filling the table of candidates, as functions of numbers -/
def mc_oof (pin zer : Nat → Int32) (mo : Nat) : Nat → (Nat → Int32) → (Nat → Int32) := fun p f => upd f p (fo (mc_outf (pin p) zer) mo 0)
abbrev FT : Type := Nat × (Nat → Int32) × (Nat → Int32) × (Nat → Int32) × (Nat → Int32) × (Nat → Int64)
def mc_filf (one pin psz oop : Nat → Int32) : Nat → FT → FT := fun p a => if mc_isc oop p = true then (a.1 + 1, upd a.2.1 a.1 (nI p), upd a.2.2.1 a.1 (oop p), upd a.2.2.2.1 a.1 (psz p), upd a.2.2.2.2.1 a.1 (pin p), vp_updL a.2.2.2.2.2 a.1 (mc_pla one (pin p) (oop p))) else a
theorem mc_filf_t {one pin psz oop : Nat → Int32} {p : Nat} (h : mc_isc oop p = true) (a : FT) : mc_filf one pin psz oop p a = (a.1 + 1, upd a.2.1 a.1 (nI p), upd a.2.2.1 a.1 (oop p), upd a.2.2.2.1 a.1 (psz p), upd a.2.2.2.2.1 a.1 (pin p), vp_updL a.2.2.2.2.2 a.1 (mc_pla one (pin p) (oop p))) := if_pos h
theorem mc_filf_f {one pin psz oop : Nat → Int32} {p : Nat} (h : mc_isc oop p = false) (a : FT) : mc_filf one pin psz oop p a = a := if_neg (by rw [h]; decide)
def mc_lon (pla : Nat → Int64) (cn : Nat) : Int64 := (fo (mc_lonf pla) cn (0, 0)).1 &&& ((fo (mc_lonf pla) cn (0, 0)).2 ^^^ (-1))
def mc_setf (v : Int32) : Nat → (Nat → Int32) → (Nat → Int32) := fun o f => upd f o v
def mc_all (ic : Int32) : Int32 := ((1 : Int32) <<< (((1 : Int32) <<< (ic &&& 31)) &&& 31)) - 1
/-- a table: count, numbers, outputs, sizes, inputs, places, due places, lonely places, outputs of products -/
abbrev TB : Type := Nat × (Nat → Int32) × (Nat → Int32) × (Nat → Int32) × (Nat → Int32) × (Nat → Int64) × Int64 × Int64 × (Nat → Int32)
def m_fill (nn mo : Nat) (one zer pin psz : Nat → Int32) (t : TB) : TB :=
  ((fo (mc_filf one pin psz (fo (mc_oof pin zer mo) (tpow nn) t.2.2.2.2.2.2.2.2)) (tpow nn) (0, t.2.1, t.2.2.1, t.2.2.2.1, t.2.2.2.2.1, t.2.2.2.2.2.1)).1,
   (fo (mc_filf one pin psz (fo (mc_oof pin zer mo) (tpow nn) t.2.2.2.2.2.2.2.2)) (tpow nn) (0, t.2.1, t.2.2.1, t.2.2.2.1, t.2.2.2.2.1, t.2.2.2.2.2.1)).2.1,
   (fo (mc_filf one pin psz (fo (mc_oof pin zer mo) (tpow nn) t.2.2.2.2.2.2.2.2)) (tpow nn) (0, t.2.1, t.2.2.1, t.2.2.2.1, t.2.2.2.2.1, t.2.2.2.2.2.1)).2.2.1,
   (fo (mc_filf one pin psz (fo (mc_oof pin zer mo) (tpow nn) t.2.2.2.2.2.2.2.2)) (tpow nn) (0, t.2.1, t.2.2.1, t.2.2.2.1, t.2.2.2.2.1, t.2.2.2.2.2.1)).2.2.2.1,
   (fo (mc_filf one pin psz (fo (mc_oof pin zer mo) (tpow nn) t.2.2.2.2.2.2.2.2)) (tpow nn) (0, t.2.1, t.2.2.1, t.2.2.2.1, t.2.2.2.2.1, t.2.2.2.2.2.1)).2.2.2.2.1,
   (fo (mc_filf one pin psz (fo (mc_oof pin zer mo) (tpow nn) t.2.2.2.2.2.2.2.2)) (tpow nn) (0, t.2.1, t.2.2.1, t.2.2.2.1, t.2.2.2.2.1, t.2.2.2.2.2.1)).2.2.2.2.2,
   fo (mc_plf one 3) 2 0,
   mc_lon (fo (mc_filf one pin psz (fo (mc_oof pin zer mo) (tpow nn) t.2.2.2.2.2.2.2.2)) (tpow nn) (0, t.2.1, t.2.2.1, t.2.2.2.1, t.2.2.2.2.1, t.2.2.2.2.2.1)).2.2.2.2.2 (fo (mc_filf one pin psz (fo (mc_oof pin zer mo) (tpow nn) t.2.2.2.2.2.2.2.2)) (tpow nn) (0, t.2.1, t.2.2.1, t.2.2.2.1, t.2.2.2.2.1, t.2.2.2.2.2.1)).1,
   fo (mc_oof pin zer mo) (tpow nn) t.2.2.2.2.2.2.2.2)
def m_gath (ga : Int32) (nn mo : Nat) (one zer pin psz : Nat → Int32) (t : TB) : TB := if ga = 0 then m_fill nn mo one zer pin psz t else t
/-- a search: picked, how many, their parts, weights, servers, best weight, best set -/
abbrev SB : Type := (Nat → Int32) × Nat × Int32 × (Nat → Int32) × (Nat → Int64) × Int32 × Int64
def m_exl (t : TB) (b : SB) : Int32 × Int64 := m_ext m_pop t.1 t.2.2.2.2.2.1 (fo (mc_wef t.2.2.2.1) t.1 b.2.2.2.1) (fo (mc_sef t.2.2.2.2.2.1 t.1) 32 b.2.2.2.2.1) 32 t.2.2.2.2.2.2.1 (zo t.1 - 1) 0 0 (1000000, 0)
def m_least (t : TB) (b : SB) : SB :=
  ((fo (mc_lbf (m_exl t b).2 t.2.2.2.1) t.1 (b.1, 0, 0)).1, (fo (mc_lbf (m_exl t b).2 t.2.2.2.1) t.1 (b.1, 0, 0)).2.1, (fo (mc_lbf (m_exl t b).2 t.2.2.2.1) t.1 (b.1, 0, 0)).2.2,
   fo (mc_wef t.2.2.2.1) t.1 b.2.2.2.1, fo (mc_sef t.2.2.2.2.2.1 t.1) 32 b.2.2.2.2.1, (m_exl t b).1, (m_exl t b).2)
def m_solv (se : Int32) (t : TB) (b : SB) : SB := if se = 0 then m_least t b else b
/-- a mark that is set -/
def gs (x : Int32) : Int32 := if x = 0 then 1 else x
