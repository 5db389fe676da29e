
theorem wantP_F (σ : Nat → Nat → Int32) (s : Nat) : ∀ i d, wantP σ s i = false → wantP σ s (i + d) = false := by
  intro i d h
  induction d with
  | zero => exact h
  | succ d ih => rw [← Nat.add_assoc, wantP_s, ih]; rfl
def okC (x : Int32) : Prop := x = -1 ∨ ∃ c, c < 12 ∧ x = nI c
/-- cells below a set: one pass over the first n cells; passes -/
def belP (σ : Nat → Nat → Int32) (h : Bool) (x : Int32) : Nat → Int32
  | 0 => x
  | n + 1 => belP σ h x n ||| (if bt (belP σ h x n) n && !(h && decide (σ 80 n ≠ 0)) then σ 76 n else 0)
def belR (σ : Nat → Nat → Int32) (h : Bool) (x : Int32) : Nat → Int32
  | 0 => x
  | r + 1 => belP σ h (belR σ h x r) 12
def belF (σ : Nat → Nat → Int32) (h : Bool) (x : Int32) : Int32 := belR σ h x 12
def oldB (σ : Nat → Nat → Int32) (w : Nat) : Bool := decide (σ 91 w < 0) || decide (10 < σ 67 34 - σ 91 w)
def stI (σ : Nat → Nat → Int32) (x : Int32) (k : Nat) : Nat → Bool
  | 0 => false
  | n + 1 => stI σ x k n || (bt x k && (decide (σ 80 k = 0) && (bt (σ 77 k) n && oldB σ n)))
def stO (σ : Nat → Nat → Int32) (x : Int32) : Nat → Bool
  | 0 => false
  | n + 1 => stO σ x n || stI σ x n 5
def staleB (σ : Nat → Nat → Int32) (c : Nat) : Bool := stO σ (belF σ true ((1 : Int32) <<< (nI c &&& 31))) 12
def runF (σ : Nat → Nat → Int32) (s : Nat) : Nat → Nat → Int32 := zu (zu σ 92 s 2) 97 s (σ 97 s + 1)
def changeF (σ : Nat → Nat → Int32) (s : Nat) : Nat → Nat → Int32 :=
  if wantP σ s 5 = false then zu σ 92 s 0
  else if σ 92 s = 0 ∧ staleB σ (σ 82 s).toNatClampNeg = false then
    (if σ 86 s = 0 then runF (zu (zu (zu σ 93 s (σ 67 34)) 94 s (σ 86 s)) 92 s 1) s else zu (zu (zu σ 93 s (σ 67 34)) 94 s (σ 86 s)) 92 s 1)
  else if σ 92 s = 1 ∧ σ 94 s ≤ σ 67 34 - σ 93 s then runF σ s
  else σ
def dpI (σ : Nat → Nat → Int32) (k : Nat) : Nat → Int32
  | 0 => 0
  | n + 1 => if bt (σ 76 k) n = true ∧ dpI σ k n < σ 79 n + 1 then σ 79 n + 1 else dpI σ k n
def dpO (σ : Nat → Nat → Int32) : Nat → Nat → Nat → Int32
  | 0 => σ
  | k + 1 => zu (dpO σ k) 79 k (dpI (dpO σ k) k 12)
def dpR (σ : Nat → Nat → Int32) : Nat → Nat → Nat → Int32
  | 0 => σ
  | r + 1 => dpO (dpR σ r) 12
def readF (σ : Nat → Nat → Int32) (w : Nat) (v : Int32) : Nat → Nat → Int32 :=
  if σ 90 w = v then zu σ 91 w (σ 67 34) else soilF (zu (zu σ 91 w (σ 67 34)) 90 w v) 77 w
def clP (σ : Nat → Nat → Int32) (n : Nat) : Nat → Nat → Int32 := fun b j =>
  if b = 88 ∧ j < n then (if σ 80 j = 0 then 0 else σ 81 j)
  else if b = 89 ∧ j < n then (if σ 80 j = 0 then 1 else 0)
  else σ b j
def clS (σ : Nat → Nat → Int32) (n : Nat) : Nat → Nat → Int32 := fun b j =>
  if b = 90 ∧ j < n then 0
  else if b = 91 ∧ j < n then -1
  else if b = 92 ∧ j < n then 0
  else if b = 95 ∧ j < n then 0
  else if b = 96 ∧ j < n then 0
  else if b = 97 ∧ j < n then 0
  else σ b j
def clearF (σ : Nat → Nat → Int32) : Nat → Nat → Int32 := zu (clS (clP σ 12) 5) 67 33 0
theorem clP_0 (σ : Nat → Nat → Int32) : clP σ 0 = σ := by funext b j; simp [clP]
theorem clS_0 (σ : Nat → Nat → Int32) : clS σ 0 = σ := by funext b j; simp [clS]
theorem clP_s (σ : Nat → Nat → Int32) (i : Nat) {v d : Int32} (hv : v = (if σ 80 i = 0 then 0 else σ 81 i)) (hd : d = (if σ 80 i = 0 then 1 else 0)) : zu (zu (clP σ i) 88 i v) 89 i d = clP σ (i + 1) := by
  funext b j
  simp only [zu, clP]
  by_cases hb0 : b = 88
  · subst hb0
    by_cases h2 : j = i
    · subst h2; simp [hv, hd]
    · have h3 : (j < i + 1) ↔ j < i := by omega
      simp [h2, h3]
  by_cases hb1 : b = 89
  · subst hb1
    by_cases h2 : j = i
    · subst h2; simp [hv, hd]
    · have h3 : (j < i + 1) ↔ j < i := by omega
      simp [h2, h3]
  simp [hb0, hb1]
theorem clS_s (σ : Nat → Nat → Int32) (i : Nat) : zu (zu (zu (zu (zu (zu (clS σ i) 90 i 0) 91 i (-1)) 92 i 0) 95 i 0) 96 i 0) 97 i 0 = clS σ (i + 1) := by
  funext b j
  simp only [zu, clS]
  by_cases hb0 : b = 90
  · subst hb0
    by_cases h2 : j = i
    · subst h2; simp []
    · have h3 : (j < i + 1) ↔ j < i := by omega
      simp [h2, h3]
  by_cases hb1 : b = 91
  · subst hb1
    by_cases h2 : j = i
    · subst h2; simp []
    · have h3 : (j < i + 1) ↔ j < i := by omega
      simp [h2, h3]
  by_cases hb2 : b = 92
  · subst hb2
    by_cases h2 : j = i
    · subst h2; simp []
    · have h3 : (j < i + 1) ↔ j < i := by omega
      simp [h2, h3]
  by_cases hb3 : b = 95
  · subst hb3
    by_cases h2 : j = i
    · subst h2; simp []
    · have h3 : (j < i + 1) ↔ j < i := by omega
      simp [h2, h3]
  by_cases hb4 : b = 96
  · subst hb4
    by_cases h2 : j = i
    · subst h2; simp []
    · have h3 : (j < i + 1) ↔ j < i := by omega
      simp [h2, h3]
  by_cases hb5 : b = 97
  · subst hb5
    by_cases h2 : j = i
    · subst h2; simp []
    · have h3 : (j < i + 1) ↔ j < i := by omega
      simp [h2, h3]
  simp [hb0, hb1, hb2, hb3, hb4, hb5]

theorem clP_held (σ : Nat → Nat → Int32) (n j : Nat) {b : Nat} (h1 : b ≠ 88) (h2 : b ≠ 89) : clP σ n b j = σ b j := by simp [clP, h1, h2]
def hgP (σ : Nat → Nat → Int32) (x y : Int32) : Nat → Int32
  | 0 => y
  | n + 1 => hgP σ x y n ||| (if bt x n then σ 78 n else 0)
def ctlM (x : Int32) : Int32 := if x < 0 then 0 else (1 : Int32) <<< (x &&& 31)
def hangF (σ : Nat → Nat → Int32) (s : Nat) : Int32 := hgP σ (belF σ false (ctlM (σ 82 s) ||| ctlM (σ 83 s))) (σ 84 s) 12

theorem okC_ix {x : Int32} (h : okC x) (h0 : ¬ x < 0) : ∃ c, c < 12 ∧ x = nI c := by
  rcases h with rfl | h
  · exact absurd (by decide) h0
  · exact h
theorem nI_tn {c : Nat} (h : c < 12) : (nI c).toNatClampNeg = c := nI_clamp (by omega)
theorem nI_n0 {c : Nat} (h : c < 12) : ¬ nI c < 0 := nI_pos (by omega)
theorem zu_ne (σ : Nat → Nat → Int32) (a i : Nat) (v : Int32) {b : Nat} (h : b ≠ a) (j : Nat) : zu σ a i v b j = σ b j := by simp [zu, h]
theorem zu_eq (σ : Nat → Nat → Int32) (a i : Nat) (v : Int32) : zu σ a i v a i = v := by simp [zu]

