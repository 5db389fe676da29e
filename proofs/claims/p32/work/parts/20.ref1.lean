/-! ===== the reference: one object, its arrays ===== -/
def zrl : List (Nat × Nat × Nat × Nat) := [(0, 68, 0, 30), (2, 69, 0, 30), (4, 70, 0, 62), (6, 71, 1, 32), (7, 72, 0, 32), (8, 73, 0, 32), (9, 74, 0, 360), (10, 75, 0, 12), (11, 76, 0, 12), (12, 77, 0, 12), (13, 78, 0, 12), (14, 79, 0, 12), (15, 80, 1, 12), (16, 81, 0, 12), (17, 82, 0, 5), (18, 83, 0, 5), (19, 84, 0, 5), (20, 85, 0, 5), (21, 86, 0, 5), (22, 87, 0, 5), (23, 88, 0, 12), (24, 89, 1, 12), (25, 90, 0, 5), (26, 91, 0, 5), (27, 92, 0, 5), (28, 93, 0, 5), (29, 94, 0, 5), (30, 95, 0, 5), (31, 96, 0, 5), (32, 97, 0, 5), (35, 98, 0, 40), (36, 99, 0, 40), (37, 100, 0, 40), (38, 101, 0, 40), (39, 102, 0, 40), (40, 103, 0, 1200), (41, 104, 0, 40), (43, 105, 3, 32)]
def figB (s : Int32) : Bool := decide (48 ≤ s) && decide (s ≤ 57)
def funB (s : Int32) : Bool := decide (s = 109) || decide (s = 110) || decide (s = 105)
def namB (s : Int32) : Bool := decide (s = 99) || decide (s = 114) || decide (s = 108)
def deedN (s : Int32) : Int32 := if s = 43 then 2 else if s = 45 then 3 else if s = 42 then 4 else if s = 60 then 5 else if s = 62 then 6 else if s = 61 then 7 else 0
def rankN (d : Int32) : Int32 := if d = 1 then 4 else if d = 4 then 3 else if d = 2 ∨ d = 3 then 2 else if d = 11 then 0 else 1

def goesN (a b c : Int32) : Int32 := if a = 0 then 1 else if b = 0 then 2 else if c = 0 then 3 else 0

