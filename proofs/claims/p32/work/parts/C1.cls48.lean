/-! ===== Table's constructor ===== -/
def n1 (b : Nat) (σ : zS2) : zS2 := fun x j => if x = b then 0 else σ x j
def n2 (b : Nat) (π : zP2) : zP2 := fun x j => if x = b then none else π x j
def n3 (b : Nat) (g : zG2) : zG2 := fun x j => if x = b then 0 else g x j
section NEW
variable {τ : zT} {M : zM} {kk mc ms : Nat} {F : State → Prop} {pc : Nat} {L : List (Option Value)} {st : List Value} {μ : zMem} {σ : zS2} {π : zP2} {g : zG2} {c k : Nat}
theorem zals_A4 {l : List (Nat × Nat)} {b : Nat} (hb : zN μ + l.length = b) (kd n : Nat) : zal (zA4 (zals μ l) σ π g) kd n = zA4 (zals μ (l ++ [(kd, n)])) (n1 b σ) (n2 b π) (n3 b g) := by
  rw [zal_A4, zals_snoc]
  have e : zN (zals μ l) = b := by rw [zals_N]; exact hb
  unfold nσ nπ ng2
  rw [e]
  rfl
theorem N_new (hT : zCx τ M kk mc ms) {ci idx b : Nat} {l : List (Nat × Nat)} (h10 : ci < 9) (hd : decode M.2.1 pc = .ok (.new idx, 3)) (hw1 : Cond.classLink M.1.cls idx (zRX ci) ∈ ztb) (hw2 : Cond.instantiable (zRX ci) (znf ci) ∈ ztb) (hw3 : Cond.initialized (zRX ci) ∈ ztb) (hdv : ∀ j, j < znf ci → defaultValue (zfty ci j) = zfv id (zfty ci j) 0 none) (hc : c + 1 ≤ mc) (hs : k + znf ci ≤ ms) (hb : zN μ + l.length = b)
    (h : zJ τ F (pc + 3) L (.ref b :: st) (zA4 (zals μ (l ++ [(ci + 8, 0)])) (n1 b σ) (n2 b π) (n3 b g)) (c + 1) (k + znf ci)) : zJ τ F pc L st (zA4 (zals μ l) σ π g) c k := by
  refine J_new hT h10 hd hw1 hw2 hw3 hdv hc hs ?_
  rw [zals_A4 hb, show zN (zA4 (zals μ l) σ π g) = b from (zals_N l μ).trans hb]
  exact h
theorem N_newI (hT : zCx τ M kk mc ms) {b : Nat} {l : List (Nat × Nat)} {at' : ArrayType} {kd n : Nat} {i : Int32} (hkd : (kd = 0 ∧ at' = .int) ∨ (kd = 1 ∧ at' = .int) ∨ (kd = 2 ∧ at' = .char)) (hd : decode M.2.1 pc = .ok (.newarray at', 2)) (hw1 : Cond.arrayClass (zty kd) ∈ ztb) (hi : i = nI n) (hn : n ≤ 100000) (hc : c + 1 ≤ mc) (hs : k + n ≤ ms) (hb : zN μ + l.length = b)
    (h : zJ τ F (pc + 2) L (.ref b :: st) (zA4 (zals μ (l ++ [(kd, n)])) (n1 b σ) (n2 b π) (n3 b g)) (c + 1) (k + n)) : zJ τ F pc L (.int i :: st) (zA4 (zals μ l) σ π g) c k := by
  refine J_newI hT hkd hd hw1 hi hn hc hs ?_
  rw [zals_A4 hb, show zN (zA4 (zals μ l) σ π g) = b from (zals_N l μ).trans hb]
  exact h
theorem N_newQ (hT : zCx τ M kk mc ms) {b : Nat} {l : List (Nat × Nat)} {kd n idx : Nat} {i : Int32} (h3 : 3 < kd) (h8 : kd < 8) (hd : decode M.2.1 pc = .ok (.anewarray idx, 3)) (hw1 : Cond.classLink M.1.cls idx (zRX (zqc kd)) ∈ ztb) (hi : i = nI n) (hn : n ≤ 100000) (hc : c + 1 ≤ mc) (hs : k + n ≤ ms) (hb : zN μ + l.length = b)
    (h : zJ τ F (pc + 3) L (.ref b :: st) (zA4 (zals μ (l ++ [(kd, n)])) (n1 b σ) (n2 b π) (n3 b g)) (c + 1) (k + n)) : zJ τ F pc L (.int i :: st) (zA4 (zals μ l) σ π g) c k := by
  refine J_newQ hT h3 h8 hd hw1 hi hn hc hs ?_
  rw [zals_A4 hb, show zN (zA4 (zals μ l) σ π g) = b from (zals_N l μ).trans hb]
  exact h
end NEW
def tl0 : List (Nat × Nat) := [(9, 0), (0, 1), (4, 12), (4, 12), (5, 5), (6, 5), (0, 33)]
def tl (i j s : Nat) : List (Nat × Nat) := tl0 ++ (List.replicate i (8, 0) ++ (List.replicate j (11, 0) ++ List.replicate s (12, 0)))
def svD (j : Nat) : Int32 := if j = 2 ∨ j = 3 ∨ j = 7 then -1 else 0
/-- a Table that is being made: so many Cells, Readings, Services -/
def TI (t nc nr ns : Nat) (σ : zS2) (π : zP2) : Prop :=
  (π t 0 = some (t + 1) ∧ π t 1 = some (t + 3) ∧ π t 2 = some (t + 4) ∧ π t 3 = some (t + 5) ∧ π t 4 = some (t + 6) ∧ π t 5 = some (t + 7)) ∧ (σ t 6 = 0 ∧ σ t 7 = 0 ∧ σ t 8 = 0) ∧ (π (t + 1) 0 = some (t + 2) ∧ σ (t + 1) 1 = 0 ∧ σ (t + 2) 0 = 0)
  ∧ (∀ i, i < nc → π (t + 3) i = some (t + 8 + i) ∧ π (t + 4) i = some (t + 8 + i) ∧ π (t + 8 + i) 1 = some (t + 1) ∧ σ (t + 8 + i) 0 = nI i ∧ σ (t + 8 + i) 2 = 0 ∧ σ (t + 8 + i) 3 = 0 ∧ σ (t + 8 + i) 4 = 0)
  ∧ (∀ i, i < nr → π (t + 5) i = some (t + 20 + i) ∧ σ (t + 20 + i) 0 = 0 ∧ σ (t + 20 + i) 1 = -1)
  ∧ ∀ i, i < ns → π (t + 6) i = some (t + 25 + i) ∧ σ (t + 25 + i) 0 = nI i ∧ ∀ j, 1 ≤ j → j ≤ 13 → σ (t + 25 + i) j = svD j
def FT (t : Nat) (σ σ' : zS2) (π π' : zP2) (g g' : zG2) : Prop := ∀ b, b < t → ∀ j, σ' b j = σ b j ∧ π' b j = π b j ∧ g' b j = g b j
theorem tl_c (i : Nat) : tl i 0 0 ++ [(0 + 8, 0)] = tl (i + 1) 0 0 := by
  unfold tl
  simp [List.replicate_succ', List.append_assoc]
theorem tl_r (j : Nat) : tl 12 j 0 ++ [(3 + 8, 0)] = tl 12 (j + 1) 0 := by
  unfold tl
  rw [List.replicate_succ' (n := j)]
  simp [List.append_assoc]
theorem tl_s (s : Nat) : tl 12 5 s ++ [(4 + 8, 0)] = tl 12 5 (s + 1) := by
  unfold tl
  rw [List.replicate_succ' (n := s)]
  simp [List.append_assoc]
theorem tl_len (i j s : Nat) : (tl i j s).length = 7 + i + j + s := by
  unfold tl tl0
  simp
  omega
theorem tl_p {i j s p : Nat} {x : Nat × Nat} (h : tl0[p]? = some x) : (tl i j s)[p]? = some x := by
  unfold tl
  rw [List.getElem?_append_left]
  · exact h
  · exact (List.getElem?_eq_some_iff.mp h).1
theorem tl_cell {i j s p : Nat} (h : p < i) : (tl i j s)[7 + p]? = some (8, 0) := by
  unfold tl
  rw [List.getElem?_append_right (by show 7 ≤ _; omega), show 7 + p - tl0.length = p by show 7 + p - 7 = p; omega, List.getElem?_append_left (by simpa using h)]
  simp [h]
theorem tl_rd {j s p : Nat} (h : p < j) : (tl 12 j s)[19 + p]? = some (11, 0) := by
  unfold tl
  rw [List.getElem?_append_right (by show 7 ≤ _; omega), show 19 + p - tl0.length = 12 + p by show 19 + p - 7 = _; omega, List.getElem?_append_right (by simp), List.getElem?_append_left (by simpa using h)]
  simp [h]
theorem tl_sv {s p : Nat} (h : p < s) : (tl 12 5 s)[24 + p]? = some (12, 0) := by
  unfold tl
  rw [List.getElem?_append_right (by show 7 ≤ _; omega), show 24 + p - tl0.length = 17 + p by show 24 + p - 7 = _; omega, List.getElem?_append_right (by simp; omega), List.getElem?_append_right (by simp; omega)]
  simp [h, show 17 + p - 12 - 5 = p by omega]

