
def cellB (a : Int32) : Bool := decide (0 ≤ a) && decide (a < 12)
def svcB (a : Int32) : Bool := decide (0 ≤ a) && decide (a < 5)
theorem inB {c n : Nat} (hc : c < n) (hn : n ≤ 12) : (decide (0 ≤ nI c) && decide (nI c < nI n)) = true := by
  rw [Bool.and_eq_true, decide_eq_true_eq, decide_eq_true_eq]
  exact ⟨nI_le (a := 0) (by omega) (by omega), nI_lt hc (by omega)⟩
theorem cell1 {c : Nat} (hc : c < 12) : zbi (decide (0 ≤ nI c) && decide (nI c < 12)) = 1 := by rw [show (decide (0 ≤ nI c) && decide (nI c < 12)) = true from inB (n := 12) hc (by omega)]; rfl
theorem svc1 {c : Nat} (hc : c < 5) : zbi (decide (0 ≤ nI c) && decide (nI c < 5)) = 1 := by rw [show (decide (0 ≤ nI c) && decide (nI c < 5)) = true from inB (n := 5) hc (by omega)]; rfl
theorem cell0 {a : Int32} (h : cellB a = false) : zbi (decide (0 ≤ a) && decide (a < 12)) = 0 := by rw [show (decide (0 ≤ a) && decide (a < 12)) = false from h]; rfl
theorem svc0 {a : Int32} (h : svcB a = false) : zbi (decide (0 ≤ a) && decide (a < 5)) = 0 := by rw [show (decide (0 ≤ a) && decide (a < 5)) = false from h]; rfl
theorem g111 : goesN 1 1 1 = 0 := rfl
theorem g011 : goesN 0 1 1 = 1 := rfl
theorem z00 : zbi (decide ((0 : Int32) = 0)) = 1 := rfl
theorem z10 : zbi (decide ((1 : Int32) = 0)) = 0 := rfl
theorem zt0 {t : Int32} (h : t ≠ 0) : zbi (decide (t = 0)) = 0 := by rw [decide_eq_false h]; rfl
theorem hr1 {S : Nat → Nat → Int32} {n : Nat} (h : S 67 42 = nI n) (hn : n < 40) : zbi (decide (S 67 42 < 40)) = 1 := by rw [h, decide_eq_true (show nI n < (40 : Int32) from nI_lt (b := 40) hn (by decide))]; rfl
theorem hr0 {S : Nat → Nat → Int32} {n : Nat} (h : S 67 42 = nI n) (hn : ¬ n < 40) (h2 : n ≤ 40) : zbi (decide (S 67 42 < 40)) = 0 := by
  have : n = 40 := by omega
  subst this
  rw [h]; rfl

