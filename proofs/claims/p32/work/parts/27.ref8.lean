
theorem J_topll {τ : zT} {F : State → Prop} {pc : Nat} {L : List (Option Value)} {st : List Value} {μ : zMem} {c k : Nat} {x y : Int64} (e : x = y) (h : zJ τ F pc L (.long y :: st) μ c k) : zJ τ F pc L (.long x :: st) μ c k := e ▸ h
theorem J_ldc2 {τ : zT} {M : zM} {kk mc ms : Nat} {F : State → Prop} {pc : Nat} {L : List (Option Value)} {st : List Value} {μ : zMem} {c k : Nat} (hT : zCx τ M kk mc ms) {idx : Nat} {v : Int64} (hd : decode M.2.1 pc = .ok (.ldc2_w idx, 3)) (hw1 : Cond.constantLong M.1.cls idx v ∈ ztb) (h : zJ τ F (pc + 3) L (.long v :: st) μ c k) : zJ τ F pc L st μ c k := by
  intro ad H locs ls hw hL hst
  refine lv_ldc2 hT.1 hT.2.1 hT.own (hT.ws _ hw1) hd ?_
  exact h ad H locs ls hw hL (zoks_cons (zok_long _ _) hst)
def lI (x : Int) : Int64 := Int64.ofInt x
theorem lI_add (a b : Int) : lI a + lI b = lI (a + b) := (Int64.ofInt_add a b).symm
theorem lI_sub (a b : Int) : lI a - lI b = lI (a - b) := (Int64.ofInt_sub a b).symm
theorem lI_mul (a b : Int) : lI a * lI b = lI (a * b) := (Int64.ofInt_mul a b).symm
theorem lI_neg (a : Int) : -lI a = lI (-a) := (Int64.ofInt_neg a).symm
theorem lI_to {a : Int} (h1 : -9223372036854775808 ≤ a) (h2 : a < 9223372036854775808) : (lI a).toInt = a := Int64.toInt_ofInt_of_le h1 h2
theorem lI_lt {a b : Int} (h1 : -9223372036854775808 ≤ a) (h2 : a < 9223372036854775808) (h3 : -9223372036854775808 ≤ b) (h4 : b < 9223372036854775808) : lI a < lI b ↔ a < b := by rw [Int64.lt_iff_toInt_lt, lI_to h1 h2, lI_to h3 h4]
theorem lI_inj {a b : Int} (h1 : -9223372036854775808 ≤ a) (h2 : a < 9223372036854775808) (h3 : -9223372036854775808 ≤ b) (h4 : b < 9223372036854775808) : lI a = lI b ↔ a = b := by rw [← Int64.toInt_inj, lI_to h1 h2, lI_to h3 h4]
theorem lI_i (x : Int32) : x.toInt64 = lI x.toInt := by
  have h1 := Int32.le_toInt x
  have h2 := Int32.toInt_lt x
  rw [← Int64.toInt_inj, lI_to (by omega) (by omega), Int32.toInt_toInt64]
theorem lI_32 (a : Int) : (lI a).toInt32 = Int32.ofInt a := Int64.toInt32_ofInt
theorem nI_sub {a b : Nat} (h : b ≤ a) : nI a - nI b = nI (a - b) := by
  have e : nI a = nI (a - b) + nI b := by rw [nI_add]; congr 1; omega
  rw [e, Int32.add_sub_cancel]
def clampI (x : Int) : Int := if 1000000 < x then 1000000 else if x < -1000000 then -1000000 else x
theorem clampI_b (x : Int) : -1000000 ≤ clampI x ∧ clampI x ≤ 1000000 := by unfold clampI; split <;> (try split) <;> omega
def binI (d : Nat) (a b : Int) : Int := if d = 2 then a + b else if d = 3 then a - b else if d = 4 then a * b else if d = 5 then (if a < b then 1 else 0) else if d = 6 then (if b < a then 1 else 0) else if d = 7 then (if a = b then 1 else 0) else if d = 8 then (if b < a then a else b) else (if b < a then b else a)
def evD (d : Nat) (s : List Int) : List Int := match s with
  | [] => []
  | x :: s1 => if d = 1 then -x :: s1 else match s1 with
    | [] => []
    | a :: s2 => if d = 10 then (match s2 with
      | [] => []
      | q :: s3 => (if 0 < q then a else x) :: s3) else clampI (binI d a x) :: s2
def zStk (g : Nat → Nat → Int64) : List Int → Prop
  | [] => True
  | x :: s => zStk g s ∧ g 105 s.length = lI x
def zge (g g' : Nat → Nat → Int64) : Prop := ∀ b, b ≠ 105 → g' b = g b
theorem zge_refl (g : Nat → Nat → Int64) : zge g g := fun _ _ => rfl
theorem zge_trans {g g' g'' : Nat → Nat → Int64} (h : zge g g') (h' : zge g' g'') : zge g g'' := fun b hb => (h' b hb).trans (h b hb)
theorem zge_set {g g' : Nat → Nat → Int64} (h : zge g g') (j : Nat) (v : Int64) : zge g (zug g' 105 j v) := fun b hb => by
  rw [← h b hb]
  funext q
  simp [zug, hb]
theorem zStk_set {g : Nat → Nat → Int64} {s : List Int} (h : zStk g s) {n : Nat} (hn : s.length ≤ n) (v : Int64) : zStk (zug g 105 n v) s := by
  induction s with
  | nil => trivial
  | cons x s ih =>
    simp only [List.length_cons] at hn
    refine ⟨ih h.1 (by omega), ?_⟩
    have : ¬ s.length = n := by omega
    simp [zug, this, h.2]
theorem zStk_push {g : Nat → Nat → Int64} {s : List Int} (h : zStk g s) {n : Nat} (hn : s.length = n) (x : Int) : zStk (zug g 105 n (lI x)) (x :: s) := ⟨zStk_set h (by omega) _, by simp [zug, hn]⟩
def sbd (s : List Int) : Prop := ∀ x ∈ s, -2147483648 ≤ x ∧ x ≤ 2147483648
theorem zu_self {σ : Nat → Nat → Int32} {a i : Nat} {v : Int32} (h : σ a i = v) : zu σ a i v = σ := by
  funext b j
  simp only [zu]
  split
  · rename_i q; rw [q.1, q.2, h]
  · rfl
theorem zu_zu (σ : Nat → Nat → Int32) (a i : Nat) (v w : Int32) : zu (zu σ a i v) a i w = zu σ a i w := by
  funext b j
  simp only [zu]
  split <;> rfl
/-! codes: the tokens w 0 .. w (n - 1) -/
def opnd (σ : Nat → Nat → Int32) (x : Nat) : Int := if x < 20000 then x else if x < 21000 then (σ 88 (x - 20000)).toInt else if x < 22000 then (σ 90 (x - 21000)).toInt else (σ 96 (x - 22000)).toInt
def evS (σ : Nat → Nat → Int32) (x : Nat) (s : List Int) : List Int := if x < 30000 then opnd σ x :: s else evD (x - 30000) s
def evP (σ : Nat → Nat → Int32) (w : Nat → Nat) : Nat → List Int
  | 0 => []
  | n + 1 => evS σ (w n) (evP σ w n)
def tokR (x : Nat) : Prop := x < 10000 ∨ (20000 ≤ x ∧ x < 20012) ∨ (21000 ≤ x ∧ x < 21005) ∨ (22000 ≤ x ∧ x < 22005) ∨ (30001 ≤ x ∧ x ≤ 30010)
def ar (x : Nat) : Nat := if x < 30000 then 0 else if x = 30001 then 1 else if x = 30010 then 3 else 2
def dpt (w : Nat → Nat) : Nat → Nat
  | 0 => 0
  | n + 1 => dpt w n + 1 - ar (w n)
def WF (w : Nat → Nat) (n : Nat) : Prop := n ≤ 30 ∧ dpt w n = 1 ∧ ∀ k, k < n → tokR (w k) ∧ ar (w k) ≤ dpt w k
theorem dpt_le (w : Nat → Nat) (n : Nat) : dpt w n ≤ n := by
  induction n with
  | zero => exact Nat.le_refl _
  | succ n ih => simp only [dpt]; omega
theorem evD_len {d : Nat} {s : List Int} (h1 : d = 1 → 1 ≤ s.length) (h2 : d = 10 → 3 ≤ s.length) (h3 : d ≠ 1 → d ≠ 10 → 2 ≤ s.length) : (evD d s).length = s.length + 1 - (if d = 1 then 1 else if d = 10 then 3 else 2) := by
  unfold evD
  split
  · by_cases a : d = 1
    · have := h1 a; simp at this
    · by_cases b : d = 10
      · have := h2 b; simp at this
      · have := h3 a b; simp at this
  · by_cases a : d = 1
    · simp [a]
    · simp only [a, if_false]
      split
      · by_cases b : d = 10
        · have := h2 b; simp at this
        · have := h3 a b; simp at this
      · by_cases b : d = 10
        · simp only [b, if_true]
          split
          · have := h2 b; simp at this
          · simp
        · simp [b]
theorem evP_len (σ : Nat → Nat → Int32) {w : Nat → Nat} {n : Nat} (h : ∀ k, k < n → tokR (w k) ∧ ar (w k) ≤ dpt w k) : (evP σ w n).length = dpt w n := by
  induction n with
  | zero => rfl
  | succ n ih =>
    have ih := ih (fun k hk => h k (by omega))
    obtain ⟨hr, ha⟩ := h n (by omega)
    simp only [evP, dpt, evS]
    split
    · rename_i q; simp [ar, q, ih]
    · rename_i q
      have hx : 30001 ≤ w n ∧ w n ≤ 30010 := by unfold tokR at hr; omega
      rw [← ih] at ha ⊢
      rw [evD_len]
      · simp only [ar, q, if_false]
        by_cases a : w n = 30001
        · simp [a]
        · by_cases b : w n = 30010
          · simp [b]
          · have a' : ¬ w n - 30000 = 1 := by omega
            have b' : ¬ w n - 30000 = 10 := by omega
            simp [a, b, a', b']
      · intro e
        have : w n = 30001 := by omega
        simp [ar, this] at ha; omega
      · intro e
        have : w n = 30010 := by omega
        simp [ar, this] at ha; omega
      · intro e1 e2
        have a : ¬ w n = 30001 := by omega
        have b : ¬ w n = 30010 := by omega
        simp [ar, q, a, b] at ha; omega
theorem evD_bd {d : Nat} {s : List Int} (h : sbd s) : sbd (evD d s) := by
  unfold evD
  split
  · exact fun x hx => nomatch hx
  · rename_i x s1
    have hx := h x List.mem_cons_self
    have hs : sbd s1 := fun y hy => h y (List.mem_cons_of_mem _ hy)
    split
    · intro y hy
      rcases List.mem_cons.mp hy with rfl | hy
      · omega
      · exact hs y hy
    · split
      · exact fun x hx => nomatch hx
      · rename_i a s2
        have ha := hs a List.mem_cons_self
        have hs2 : sbd s2 := fun y hy => hs y (List.mem_cons_of_mem _ hy)
        split
        · split
          · exact fun x hx => nomatch hx
          · rename_i q s3
            intro y hy
            rcases List.mem_cons.mp hy with rfl | hy
            · split <;> omega
            · exact hs2 y (List.mem_cons_of_mem _ hy)
        · intro y hy
          rcases List.mem_cons.mp hy with rfl | hy
          · have := clampI_b (binI d a x); omega
          · exact hs2 y hy
theorem opnd_bd (σ : Nat → Nat → Int32) {x : Nat} (h : tokR x) : -2147483648 ≤ opnd σ x ∧ opnd σ x ≤ 2147483648 := by
  unfold opnd
  have b : ∀ y : Int32, -2147483648 ≤ y.toInt ∧ y.toInt ≤ 2147483648 := fun y => ⟨Int32.le_toInt y, by have := Int32.toInt_lt y; omega⟩
  split
  · unfold tokR at h; omega
  · split
    · exact b _
    · split
      · exact b _
      · exact b _
theorem evP_bd (σ : Nat → Nat → Int32) {w : Nat → Nat} {n : Nat} (h : ∀ k, k < n → tokR (w k) ∧ ar (w k) ≤ dpt w k) : sbd (evP σ w n) := by
  induction n with
  | zero => exact fun x hx => nomatch hx
  | succ n ih =>
    have ih := ih (fun k hk => h k (by omega))
    simp only [evP, evS]
    split
    · intro y hy
      rcases List.mem_cons.mp hy with rfl | hy
      · exact opnd_bd σ (h n (by omega)).1
      · exact ih y hy
    · exact evD_bd ih
def cdw (σ : Nat → Nat → Int32) (c : Nat) : Nat → Nat := fun k => (σ 74 (30 * c + k)).toNatClampNeg
def cdn (σ : Nat → Nat → Int32) (c : Nat) : Nat := (σ 75 c).toNatClampNeg
/-- a cell's code is well made -/
def WFc (σ : Nat → Nat → Int32) (c : Nat) : Prop := WF (cdw σ c) (cdn σ c) ∧ σ 75 c = nI (cdn σ c) ∧ ∀ k, k < cdn σ c → σ 74 (30 * c + k) = nI (cdw σ c k)
def worthN (σ : Nat → Nat → Int32) (c : Nat) : Int32 := Int32.ofInt ((evP σ (cdw σ c) (cdn σ c)).headD 0)

