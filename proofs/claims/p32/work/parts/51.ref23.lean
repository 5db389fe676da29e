
def letB (a : Int32) : Bool := figB a || (funB a || (namB a || (decide (0 < deedN a) || (decide (a = 40) || (decide (a = 41) || decide (a = 44))))))

