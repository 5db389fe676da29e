
theorem g0 (b c : Int32) : goesN 0 b c = 1 := rfl
theorem g10 (c : Int32) : goesN 1 0 c = 2 := rfl
theorem z20 : zbi (decide ((2 : Int32) = 0)) = 0 := rfl
theorem zbT {b : Bool} (h : b = true) : zbi b = 1 := by rw [h]; rfl
theorem zbF {b : Bool} (h : b = false) : zbi b = 0 := by rw [h]; rfl

