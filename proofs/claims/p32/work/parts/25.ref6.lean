
def beP (σ : Nat → Nat → Int32) (n : Nat) : Nat → Nat → Int32 := fun b j =>
  if b = 74 ∧ j % 30 = 0 ∧ j / 30 < n then 0
  else if b = 75 ∧ j < n then 1
  else if b = 76 ∧ j < n then 0
  else if b = 77 ∧ j < n then 0
  else if b = 78 ∧ j < n then 0
  else if b = 79 ∧ j < n then 0
  else if b = 80 ∧ j < n then 0
  else σ b j
def beS (σ : Nat → Nat → Int32) (n : Nat) : Nat → Nat → Int32 := fun b j =>
  if b = 82 ∧ j < n then -1
  else if b = 83 ∧ j < n then -1
  else if b = 84 ∧ j < n then 0
  else if b = 85 ∧ j < n then 0
  else if b = 86 ∧ j < n then 0
  else if b = 87 ∧ j < n then -1
  else σ b j
def beD (σ : Nat → Nat → Int32) (n : Nat) : Nat → Nat → Int32 := fun b j => if b = 89 ∧ j < n then 0 else σ b j
def beginF (σ : Nat → Nat → Int32) : Nat → Nat → Int32 := zu (beD (clearF (beS (beP σ 12) 5)) 12) 67 34 0
theorem beP_0 (σ : Nat → Nat → Int32) : beP σ 0 = σ := by funext b j; simp [beP]
theorem beS_0 (σ : Nat → Nat → Int32) : beS σ 0 = σ := by funext b j; simp [beS]
theorem beD_0 (σ : Nat → Nat → Int32) : beD σ 0 = σ := by funext b j; simp [beD]
theorem beP_s (σ : Nat → Nat → Int32) (i : Nat) : zu (zu (zu (zu (zu (zu (zu (beP σ i) 74 (30 * i) 0) 75 i 1) 76 i 0) 77 i 0) 78 i 0) 79 i 0) 80 i 0 = beP σ (i + 1) := by
  funext b j
  simp only [zu, beP]
  by_cases hb : b = 74
  · subst hb
    have e : (j % 30 = 0 ∧ j / 30 < i + 1) ↔ (j = 30 * i ∨ (j % 30 = 0 ∧ j / 30 < i)) := by omega
    simp only [e]
    by_cases h2 : j = 30 * i
    · simp [h2]
    · simp [h2]
  by_cases hb0 : b = 75
  · subst hb0
    by_cases h2 : j = i
    · subst h2; simp
    · have h3 : (j < i + 1) ↔ j < i := by omega
      simp [h2, h3]
  by_cases hb1 : b = 76
  · subst hb1
    by_cases h2 : j = i
    · subst h2; simp
    · have h3 : (j < i + 1) ↔ j < i := by omega
      simp [h2, h3]
  by_cases hb2 : b = 77
  · subst hb2
    by_cases h2 : j = i
    · subst h2; simp
    · have h3 : (j < i + 1) ↔ j < i := by omega
      simp [h2, h3]
  by_cases hb3 : b = 78
  · subst hb3
    by_cases h2 : j = i
    · subst h2; simp
    · have h3 : (j < i + 1) ↔ j < i := by omega
      simp [h2, h3]
  by_cases hb4 : b = 79
  · subst hb4
    by_cases h2 : j = i
    · subst h2; simp
    · have h3 : (j < i + 1) ↔ j < i := by omega
      simp [h2, h3]
  by_cases hb5 : b = 80
  · subst hb5
    by_cases h2 : j = i
    · subst h2; simp
    · have h3 : (j < i + 1) ↔ j < i := by omega
      simp [h2, h3]
  simp [hb, hb0, hb1, hb2, hb3, hb4, hb5]

def maskP (σ : Nat → Nat → Int32) (st : Nat) (lo hi : Int32) : Nat → Int32
  | 0 => 0
  | n + 1 => maskP σ st lo hi n ||| (if lo ≤ σ 103 (30 * st + n) ∧ σ 103 (30 * st + n) ≤ hi then (1 : Int32) <<< ((σ 103 (30 * st + n) - lo) &&& 31) else 0)
def gvP (σ : Nat → Nat → Int32) (c st n : Nat) : Nat → Nat → Int32 := fun b j =>
  if b = 74 ∧ 30 * c ≤ j ∧ j < 30 * c + n then σ 103 (30 * st + (j - 30 * c))
  else if b = 75 ∧ j = c then σ 104 st
  else if b = 76 ∧ j = c then maskP σ st 20000 20999 n
  else if b = 77 ∧ j = c then maskP σ st 21000 21999 n
  else if b = 78 ∧ j = c then maskP σ st 22000 29999 n
  else σ b j
def dzP (σ : Nat → Nat → Int32) (n : Nat) : Nat → Nat → Int32 := fun b j => if b = 79 ∧ j < n then 0 else σ b j
theorem dzP_0 (σ : Nat → Nat → Int32) : dzP σ 0 = σ := by funext b j; simp [dzP]
def giveF (σ : Nat → Nat → Int32) (c st n : Nat) : Nat → Nat → Int32 :=
  zu (dpR (dzP (gvP σ c st n) 12) 12) 89 c (if dpR (dzP (gvP σ c st n) 12) 12 80 c = 0 then 1 else 0)
theorem gvP_0 (σ : Nat → Nat → Int32) (c st : Nat) : zu (zu (zu (zu σ 76 c 0) 77 c 0) 78 c 0) 75 c (σ 104 st) = gvP σ c st 0 := by
  funext b j
  simp only [zu, gvP, maskP]
  by_cases h0 : b = 74
  · subst h0
    have : ¬ (30 * c ≤ j ∧ j < 30 * c + 0) := by omega
    simp
    intro q1 q2
    omega
  · by_cases h1 : b = 75
    · subst h1; simp
    · by_cases h2 : b = 76
      · subst h2; simp
      · by_cases h3 : b = 77
        · subst h3; simp
        · by_cases h4 : b = 78
          · subst h4; simp
          · simp [h0, h1, h2, h3, h4]
theorem gvP_s (σ : Nat → Nat → Int32) (c st n : Nat) {w m1 m2 m3 : Int32} (hw : w = σ 103 (30 * st + n)) (h1 : m1 = maskP σ st 20000 20999 (n + 1)) (h2 : m2 = maskP σ st 21000 21999 (n + 1)) (h3 : m3 = maskP σ st 22000 29999 (n + 1)) : zu (zu (zu (zu (gvP σ c st n) 74 (30 * c + n) w) 76 c m1) 77 c m2) 78 c m3 = gvP σ c st (n + 1) := by
  subst hw h1 h2 h3
  funext b j
  simp only [zu, gvP]
  by_cases h0 : b = 74
  · subst h0
    have e : (30 * c ≤ j ∧ j < 30 * c + (n + 1)) ↔ (j = 30 * c + n ∨ (30 * c ≤ j ∧ j < 30 * c + n)) := by omega
    simp only [e]
    by_cases h2 : j = 30 * c + n
    · subst h2; simp
    · simp [h2]
  · by_cases h1 : b = 75
    · subst h1; simp
    · by_cases h2 : b = 76
      · subst h2; by_cases q : j = c <;> simp [q]
      · by_cases h3 : b = 77
        · subst h3; by_cases q : j = c <;> simp [q]
        · by_cases h4 : b = 78
          · subst h4; by_cases q : j = c <;> simp [q]
          · simp [h0, h1, h2, h3, h4]
theorem gvP_ne (σ : Nat → Nat → Int32) (c st n : Nat) {b : Nat} (j : Nat) (h0 : b ≠ 74) (h1 : b ≠ 75) (h2 : b ≠ 76) (h3 : b ≠ 77) (h4 : b ≠ 78) : gvP σ c st n b j = σ b j := by simp [gvP, h0, h1, h2, h3, h4]
theorem dpO_ne (σ : Nat → Nat → Int32) (k : Nat) {b : Nat} (h : b ≠ 79) (j : Nat) : dpO σ k b j = σ b j := by
  induction k with
  | zero => rfl
  | succ k ih => simp [dpO, zu, h, ih]
theorem dpR_ne (σ : Nat → Nat → Int32) (k : Nat) {b : Nat} (h : b ≠ 79) (j : Nat) : dpR σ k b j = σ b j := by
  induction k with
  | zero => rfl
  | succ k ih => show dpO (dpR σ k) 12 b j = σ b j; rw [dpO_ne _ _ h, ih]
def setCF (σ : Nat → Nat → Int32) (c st n : Nat) : Nat → Nat → Int32 :=
  if σ 98 st = 0 then giveF σ c st n
  else if σ 98 st = 1 then becomeF (zu (zu (zu σ 80 c 1) 81 c (σ 100 st)) 89 c 0) c (σ 100 st)
  else zu (zu σ 80 c 0) 89 c 1
def setSF (σ : Nat → Nat → Int32) (s st : Nat) : Nat → Nat → Int32 :=
  let a1 := zu σ 82 s (if σ 98 st = 4 then σ 100 st else σ 82 s)
  let a2 := zu a1 83 s (if σ 98 st = 5 then σ 100 st else σ 83 s)
  let a3 := zu a2 85 s (if σ 98 st = 6 then σ 100 st else σ 85 s)
  let a4 := zu a3 86 s (if σ 98 st = 6 then σ 101 st else σ 86 s)
  let a5 := zu a4 87 s (if σ 98 st = 8 then σ 100 st else σ 87 s)
  let a6 := zu a5 92 s (if σ 98 st = 9 then 0 else σ 92 s)
  if σ 98 st = 7 then zu a6 84 s (if σ 101 st = 1 then σ 84 s ||| ((1 : Int32) <<< (σ 100 st &&& 31)) else σ 84 s &&& (((1 : Int32) <<< (σ 100 st &&& 31)) ^^^ (-1))) else a6
def ilI (σ : Nat → Nat → Int32) (x : Int32) : Nat → Int32
  | 0 => x
  | n + 1 => ilI σ x n ||| (if bt (ilI σ x n) n = true then hangF σ n else 0)
def ilO (σ : Nat → Nat → Int32) (x : Int32) : Nat → Int32
  | 0 => x
  | n + 1 => ilI σ (ilO σ x n) 5
def loopB (σ : Nat → Nat → Int32) (s : Nat) : Bool := bt (ilO σ (hangF σ s) 5) s
def whP (σ : Nat → Nat → Int32) : Nat → Int32
  | 0 => 0
  | n + 1 => whP σ n ||| (if 20000 ≤ σ 69 n ∧ σ 69 n ≤ 20999 then (1 : Int32) <<< ((σ 69 n - 20000) &&& 31) else 0)
theorem beS_s (σ : Nat → Nat → Int32) (i : Nat) : zu (zu (zu (zu (zu (zu (beS σ i) 82 i (-1)) 83 i (-1)) 84 i 0) 85 i 0) 86 i 0) 87 i (-1) = beS σ (i + 1) := by
  funext b j
  simp only [zu, beS]
  by_cases hb0 : b = 82
  · subst hb0
    by_cases h2 : j = i
    · subst h2; simp []
    · have h3 : (j < i + 1) ↔ j < i := by omega
      simp [h2, h3]
  by_cases hb1 : b = 83
  · subst hb1
    by_cases h2 : j = i
    · subst h2; simp []
    · have h3 : (j < i + 1) ↔ j < i := by omega
      simp [h2, h3]
  by_cases hb2 : b = 84
  · subst hb2
    by_cases h2 : j = i
    · subst h2; simp []
    · have h3 : (j < i + 1) ↔ j < i := by omega
      simp [h2, h3]
  by_cases hb3 : b = 85
  · subst hb3
    by_cases h2 : j = i
    · subst h2; simp []
    · have h3 : (j < i + 1) ↔ j < i := by omega
      simp [h2, h3]
  by_cases hb4 : b = 86
  · subst hb4
    by_cases h2 : j = i
    · subst h2; simp []
    · have h3 : (j < i + 1) ↔ j < i := by omega
      simp [h2, h3]
  by_cases hb5 : b = 87
  · subst hb5
    by_cases h2 : j = i
    · subst h2; simp []
    · have h3 : (j < i + 1) ↔ j < i := by omega
      simp [h2, h3]
  simp [hb0, hb1, hb2, hb3, hb4, hb5]
theorem beD_s (σ : Nat → Nat → Int32) (i : Nat) : zu (beD σ i) 89 i 0 = beD σ (i + 1) := by
  funext b j
  simp only [zu, beD]
  by_cases hb0 : b = 89
  · subst hb0
    by_cases h2 : j = i
    · subst h2; simp []
    · have h3 : (j < i + 1) ↔ j < i := by omega
      simp [h2, h3]
  simp [hb0]
theorem dzP_s (σ : Nat → Nat → Int32) (i : Nat) : zu (dzP σ i) 79 i 0 = dzP σ (i + 1) := by
  funext b j
  simp only [zu, dzP]
  by_cases hb0 : b = 79
  · subst hb0
    by_cases h2 : j = i
    · subst h2; simp []
    · have h3 : (j < i + 1) ↔ j < i := by omega
      simp [h2, h3]
  simp [hb0]

theorem belP_congr {σ σ' : Nat → Nat → Int32} (h1 : ∀ j, σ' 80 j = σ 80 j) (h2 : ∀ j, σ' 76 j = σ 76 j) (h : Bool) (x : Int32) (n : Nat) : belP σ' h x n = belP σ h x n := by
  induction n with
  | zero => rfl
  | succ n ih => simp only [belP, ih, h1, h2]
theorem belF_congr {σ σ' : Nat → Nat → Int32} (h1 : ∀ j, σ' 80 j = σ 80 j) (h2 : ∀ j, σ' 76 j = σ 76 j) (h : Bool) (x : Int32) : belF σ' h x = belF σ h x := by
  have : ∀ r, belR σ' h x r = belR σ h x r := by
    intro r
    induction r with
    | zero => rfl
    | succ r ih => simp only [belR, ih, belP_congr h1 h2]
  exact this 12
theorem hangF_congr {σ σ' : Nat → Nat → Int32} (h : ∀ b j, b ≠ 67 → σ' b j = σ b j) (s : Nat) : hangF σ' s = hangF σ s := by
  have e : ∀ x y n, hgP σ' x y n = hgP σ x y n := by
    intro x y n
    induction n with
    | zero => rfl
    | succ n ih => simp only [hgP, ih, h 78 n (by decide)]
  unfold hangF
  rw [e, belF_congr (fun j => h _ j (by decide)) (fun j => h _ j (by decide)), h _ _ (by decide), h _ _ (by decide), h _ _ (by decide)]
theorem loopB_congr {σ σ' : Nat → Nat → Int32} (h : ∀ b j, b ≠ 67 → σ' b j = σ b j) (s : Nat) : loopB σ' s = loopB σ s := by
  have e : ∀ n x, ilI σ' x n = ilI σ x n := by
    intro n x
    induction n with
    | zero => rfl
    | succ n ih => simp only [ilI, ih, hangF_congr h]
  have e2 : ∀ n x, ilO σ' x n = ilO σ x n := by
    intro n x
    induction n with
    | zero => rfl
    | succ n ih => simp only [ilO, ih, e]
  unfold loopB
  rw [e2, hangF_congr h]

