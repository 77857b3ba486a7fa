/-! the cells of the class: addresses by 'ad', array classes by 'ca'; 0 the house, 1 the search, 2 the table, 3 the products, 4 oneSets, 5 zeroSets, 6 picked, 7 weights, 8 servers, 9 numbers, 10 outputs, 11 sizes, 12 inputs, 13 places, 14 outputsOfProduct, 15 and 16 the products' inputs and sizes -/
abbrev eT (ad : Nat → Nat) (cnt : Int32) (due lon : Int64) : va_E := .inr (0, [.ref (ad 9), .ref (ad 10), .ref (ad 11), .ref (ad 12), .ref (ad 13), .int cnt, .long due, .long lon, .ref (ad 3), .ref (ad 14)])
abbrev eP (ad : Nat → Nat) : va_E := .inr (1, [.ref (ad 15), .ref (ad 16)])
abbrev eS (ad : Nat → Nat) (pk pp bw : Int32) (bs : Int64) : va_E := .inr (2, [.ref (ad 6), .int pk, .int pp, .ref (ad 2), .ref (ad 7), .ref (ad 8), .int bw, .long bs])
abbrev eH (ad : Nat → Nat) (ic oc ga se : Int32) : va_E := .inr (3, [.ref (ad 4), .ref (ad 5), .ref (ad 1), .ref (ad 2), .int ic, .int oc, .int ga, .int se])
abbrev eI (n : Nat) (ca : ClassId) (f : Nat → Int32) : va_E := .inl (ca, n, .inl f)
abbrev eL (n : Nat) (ca : ClassId) (f : Nat → Int64) : va_E := .inl (ca, n, .inr (.inl f))
/-- a callee's words among those of a caller: it has all that stay -/
theorem gd_V {own C : String} {idx : Nat} {y : MethodName} {w0 w1 : Cond} (h1 : Cond.methodLink own idx y ∈ LW) (h2 : Cond.instanceMethod y ∈ LW) (h3 : Cond.selects C y y ∈ LW) (h4 : Cond.initialized C ∈ LW) (hc : w1 ∈ LW) : GoodIn (w0 :: LW) (wsV own idx C y (w1 :: LW)) := by
  have hg : ∀ w ∈ LW, w ∈ w0 :: LW ∧ ((w.onTables && w.keeps) = true ∨ ∃ ty, w = .arrayClass ty) := fun w h => ⟨List.mem_cons_of_mem _ h, good_of_word (List.all_eq_true.mp LW_all w h)⟩
  intro w hw
  rcases List.mem_append.mp hw with hw | hw
  · simp only [List.mem_cons, List.not_mem_nil, or_false] at hw
    rcases hw with rfl | rfl | rfl | rfl
    · exact hg _ h1
    · exact hg _ h2
    · exact hg _ h3
    · exact hg _ h4
  · rcases List.mem_cons.mp hw with rfl | hw
    · exact hg _ hc
    · exact hg _ hw
theorem gd_S {own : String} {idx : Nat} {y : MethodName} {w0 w1 : Cond} (h1 : Cond.methodLink own idx y ∈ LW) (h2 : Cond.static y ∈ LW) (h4 : Cond.initialized y.cls ∈ LW) (hc : w1 ∈ LW) : GoodIn (w0 :: LW) (va_wsS own idx y (w1 :: LW)) := by
  have hg : ∀ w ∈ LW, w ∈ w0 :: LW ∧ ((w.onTables && w.keeps) = true ∨ ∃ ty, w = .arrayClass ty) := fun w h => ⟨List.mem_cons_of_mem _ h, good_of_word (List.all_eq_true.mp LW_all w h)⟩
  intro w hw
  rcases List.mem_append.mp hw with hw | hw
  · simp only [List.mem_cons, List.not_mem_nil, or_false] at hw
    rcases hw with rfl | rfl | rfl
    · exact hg _ h1
    · exact hg _ h2
    · exact hg _ h4
  · rcases List.mem_cons.mp hw with rfl | hw
    · exact hg _ hc
    · exact hg _ hw
theorem gd_C {w0 w1 : Cond} (hc : w1 ∈ LW) : GoodIn (w0 :: LW) (w1 :: LW) := by
  have hg : ∀ w ∈ LW, w ∈ w0 :: LW ∧ ((w.onTables && w.keeps) = true ∨ ∃ ty, w = .arrayClass ty) := fun w h => ⟨List.mem_cons_of_mem _ h, good_of_word (List.all_eq_true.mp LW_all w h)⟩
  intro w hw
  rcases List.mem_cons.mp hw with rfl | hw
  · exact hg _ hc
  · exact hg _ hw
theorem hw_of {w w0 : Cond} {args : Array Value} {s : State} (hts : ∀ w ∈ w0 :: LW, w.before args s = true) (h : w ∈ LW) : w.before args s = true := hts w (List.mem_cons_of_mem _ h)
theorem hin_of {us : List Cond} {w0 : Cond} (h : ∀ w ∈ us, w ∈ LW) : ∀ w ∈ us, w ∈ w0 :: LW := fun w hw => List.mem_cons_of_mem _ (h w hw)
def rmE (d : Nat) : Room := { frames := d + 3, cells := 0, slots := 0, locals := 35 * d + 120 }
