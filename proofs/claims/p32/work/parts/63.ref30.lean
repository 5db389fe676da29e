theorem g110 : goesN 1 1 0 = 3 := rfl
theorem z30 : zbi (decide ((3 : Int32) = 0)) = 0 := rfl

