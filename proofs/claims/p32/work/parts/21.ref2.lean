
/-! ===== what the reference does, over its numbers ===== -/
def soilP (σ : Nat → Nat → Int32) (rk w n : Nat) : Nat → Nat → Int32 := fun b j => if b = 89 ∧ j < n then zbi (decide (σ 89 j ≠ 0) || (decide (σ 80 j = 0) && bt (σ rk j) w)) else σ b j
def soilF (σ : Nat → Nat → Int32) (rk w : Nat) : Nat → Nat → Int32 := soilP σ rk w 12
theorem soilP_0 (σ : Nat → Nat → Int32) (rk w : Nat) : soilP σ rk w 0 = σ := by funext b j; simp [soilP]
theorem soilP_ne (σ : Nat → Nat → Int32) (rk w n : Nat) {b : Nat} (h : b ≠ 89) (j : Nat) : soilP σ rk w n b j = σ b j := by simp [soilP, h]
theorem soilP_ge (σ : Nat → Nat → Int32) (rk w n : Nat) {j : Nat} (h : n ≤ j) : soilP σ rk w n 89 j = σ 89 j := by simp [soilP, Nat.not_lt.mpr h]
theorem soilP_s (σ : Nat → Nat → Int32) (rk w i : Nat) {v : Int32} (h : v = zbi (decide (σ 89 i ≠ 0) || (decide (σ 80 i = 0) && bt (σ rk i) w))) : zu (soilP σ rk w i) 89 i v = soilP σ rk w (i + 1) := by
  funext b j
  simp only [zu, soilP]
  by_cases h1 : b = 89
  · subst h1
    by_cases h2 : j = i
    · subst h2; simp [h]
    · have h3 : (j < i + 1) ↔ j < i := by omega
      simp [h2, h3]
  · simp [h1]
theorem soilF_ne (σ : Nat → Nat → Int32) (rk w : Nat) {b : Nat} (h : b ≠ 89) (j : Nat) : soilF σ rk w b j = σ b j := soilP_ne σ rk w 12 h j
theorem soilF_at (σ : Nat → Nat → Int32) (rk w : Nat) {j : Nat} (h : j < 12) : soilF σ rk w 89 j = zbi (decide (σ 89 j ≠ 0) || (decide (σ 80 j = 0) && bt (σ rk j) w)) := by simp [soilF, soilP, h]
def becomeF (σ : Nat → Nat → Int32) (c : Nat) (v : Int32) : Nat → Nat → Int32 := if σ 88 c = v then σ else soilF (zu σ 88 c v) 76 c
def tellF (σ : Nat → Nat → Int32) (s : Nat) (v : Int32) : Nat → Nat → Int32 := if σ 96 s = v then σ else soilF (zu σ 96 s v) 78 s
/-- the dirty cell of least depth, the lower one of two, among the first n -/
def ndP (σ : Nat → Nat → Int32) : Nat → Option Nat
  | 0 => none
  | n + 1 => match ndP σ n with
    | none => if σ 89 n ≠ 0 then some n else none
    | some f => if σ 89 n ≠ 0 ∧ σ 79 n < σ 79 f then some n else some f
def oI (o : Option Nat) : Int32 := match o with
  | none => -1
  | some n => nI n
theorem ndP_lt (σ : Nat → Nat → Int32) : ∀ (n f : Nat), ndP σ n = some f → f < n := by
  intro n
  induction n with
  | zero => intro f h; cases h
  | succ n ih =>
    intro f h
    unfold ndP at h
    split at h
    · split at h
      · cases h; omega
      · cases h
    · rename_i f' hf'
      have := ih f' hf'
      split at h
      · cases h; omega
      · cases h; omega
/-- wanted, as far as the first n services say -/
def wantP (σ : Nat → Nat → Int32) (s n : Nat) : Bool := decide (0 ≤ σ 82 s) && (decide (0 < σ 88 (σ 82 s).toNatClampNeg) && (List.range n).all (fun k => !bt (σ 84 s) k || decide (σ 92 k = 2)))
theorem wantP_s (σ : Nat → Nat → Int32) (s n : Nat) : wantP σ s (n + 1) = (wantP σ s n && (!bt (σ 84 s) n || decide (σ 92 n = 2))) := by
  simp [wantP, List.range_succ, Bool.and_assoc]
def loadN (σ : Nat → Nat → Int32) (s : Nat) : Int32 :=
  let most := if σ 83 s < 0 then σ 85 s else σ 88 (σ 83 s).toNatClampNeg
  let most2 := if most < σ 85 s then most else σ 85 s
  if σ 92 s ≠ 2 ∨ most2 < 0 then 0 else most2

