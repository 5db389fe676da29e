
def beP (σ : Nat → Nat → Int32) (n : Nat) : Nat → Nat → Int32 := fun b j =>
  if b = 74 ∧ j % 30 = 0 ∧ j / 30 < n then 0
  else if b = 75 ∧ j < n then 1
  else if b = 76 ∧ j < n then 0
  else if b = 77 ∧ j < n then 0
  else if b = 78 ∧ j < n then 0
  else if b = 79 ∧ j < n then 0
  else if b = 80 ∧ j < n then 0
  else σ b j
def beS (σ : Nat → Nat → Int32) (n : Nat) : Nat → Nat → Int32 := fun b j =>
  if b = 82 ∧ j < n then -1
  else if b = 83 ∧ j < n then -1
  else if b = 84 ∧ j < n then 0
  else if b = 85 ∧ j < n then 0
  else if b = 86 ∧ j < n then 0
  else if b = 87 ∧ j < n then -1
  else σ b j
def beD (σ : Nat → Nat → Int32) (n : Nat) : Nat → Nat → Int32 := fun b j => if b = 89 ∧ j < n then 0 else σ b j
def beginF (σ : Nat → Nat → Int32) : Nat → Nat → Int32 := zu (beD (clearF (beS (beP σ 12) 5)) 12) 67 34 0
theorem beP_0 (σ : Nat → Nat → Int32) : beP σ 0 = σ := by funext b j; simp [beP]
theorem beS_0 (σ : Nat → Nat → Int32) : beS σ 0 = σ := by funext b j; simp [beS]
theorem beD_0 (σ : Nat → Nat → Int32) : beD σ 0 = σ := by funext b j; simp [beD]
theorem beP_s (σ : Nat → Nat → Int32) (i : Nat) : zu (zu (zu (zu (zu (zu (zu (beP σ i) 74 (30 * i) 0) 75 i 1) 76 i 0) 77 i 0) 78 i 0) 79 i 0) 80 i 0 = beP σ (i + 1) := by
  funext b j
  simp only [zu, beP]
  by_cases hb : b = 74
  · subst hb
    have e : (j % 30 = 0 ∧ j / 30 < i + 1) ↔ (j = 30 * i ∨ (j % 30 = 0 ∧ j / 30 < i)) := by omega
    simp only [e]
    by_cases h2 : j = 30 * i
    · simp [h2]
    · simp [h2]
  by_cases hb0 : b = 75
  · subst hb0
    by_cases h2 : j = i
    · subst h2; simp
    · have h3 : (j < i + 1) ↔ j < i := by omega
      simp [h2, h3]
  by_cases hb1 : b = 76
  · subst hb1
    by_cases h2 : j = i
    · subst h2; simp
    · have h3 : (j < i + 1) ↔ j < i := by omega
      simp [h2, h3]
  by_cases hb2 : b = 77
  · subst hb2
    by_cases h2 : j = i
    · subst h2; simp
    · have h3 : (j < i + 1) ↔ j < i := by omega
      simp [h2, h3]
  by_cases hb3 : b = 78
  · subst hb3
    by_cases h2 : j = i
    · subst h2; simp
    · have h3 : (j < i + 1) ↔ j < i := by omega
      simp [h2, h3]
  by_cases hb4 : b = 79
  · subst hb4
    by_cases h2 : j = i
    · subst h2; simp
    · have h3 : (j < i + 1) ↔ j < i := by omega
      simp [h2, h3]
  by_cases hb5 : b = 80
  · subst hb5
    by_cases h2 : j = i
    · subst h2; simp
    · have h3 : (j < i + 1) ↔ j < i := by omega
      simp [h2, h3]
  simp [hb, hb0, hb1, hb2, hb3, hb4, hb5]

def maskP (σ : Nat → Nat → Int32) (st : Nat) (lo hi : Int32) : Nat → Int32
  | 0 => 0
  | n + 1 => maskP σ st lo hi n ||| (if lo ≤ σ 103 (30 * st + n) ∧ σ 103 (30 * st + n) ≤ hi then (1 : Int32) <<< ((σ 103 (30 * st + n) - lo) &&& 31) else 0)
def gvP (σ : Nat → Nat → Int32) (c st n : Nat) : Nat → Nat → Int32 := fun b j =>
  if b = 74 ∧ 30 * c ≤ j ∧ j < 30 * c + n then σ 103 (30 * st + (j - 30 * c))
  else if b = 75 ∧ j = c then σ 104 st
  else if b = 76 ∧ j = c then maskP σ st 20000 20999 n
  else if b = 77 ∧ j = c then maskP σ st 21000 21999 n
  else if b = 78 ∧ j = c then maskP σ st 22000 29999 n
  else σ b j
def dzP (σ : Nat → Nat → Int32) (n : Nat) : Nat → Nat → Int32 := fun b j => if b = 79 ∧ j < n then 0 else σ b j
theorem dzP_0 (σ : Nat → Nat → Int32) : dzP σ 0 = σ := by funext b j; simp [dzP]
def giveF (σ : Nat → Nat → Int32) (c st n : Nat) : Nat → Nat → Int32 :=
  zu (dpR (dzP (gvP σ c st n) 12) 12) 89 c (if dpR (dzP (gvP σ c st n) 12) 12 80 c = 0 then 1 else 0)
theorem gvP_0 (σ : Nat → Nat → Int32) (c st : Nat) : zu (zu (zu (zu σ 76 c 0) 77 c 0) 78 c 0) 75 c (σ 104 st) = gvP σ c st 0 := by
  funext b j
  simp only [zu, gvP, maskP]
  by_cases h0 : b = 74
  · subst h0
    have : ¬ (30 * c ≤ j ∧ j < 30 * c + 0) := by omega
    simp
    intro q1 q2
    omega
  · by_cases h1 : b = 75
    · subst h1; simp
    · by_cases h2 : b = 76
      · subst h2; simp
      · by_cases h3 : b = 77
        · subst h3; simp
        · by_cases h4 : b = 78
          · subst h4; simp
          · simp [h0, h1, h2, h3, h4]
theorem gvP_s (σ : Nat → Nat → Int32) (c st n : Nat) {w m1 m2 m3 : Int32} (hw : w = σ 103 (30 * st + n)) (h1 : m1 = maskP σ st 20000 20999 (n + 1)) (h2 : m2 = maskP σ st 21000 21999 (n + 1)) (h3 : m3 = maskP σ st 22000 29999 (n + 1)) : zu (zu (zu (zu (gvP σ c st n) 74 (30 * c + n) w) 76 c m1) 77 c m2) 78 c m3 = gvP σ c st (n + 1) := by
  subst hw h1 h2 h3
  funext b j
  simp only [zu, gvP]
  by_cases h0 : b = 74
  · subst h0
    have e : (30 * c ≤ j ∧ j < 30 * c + (n + 1)) ↔ (j = 30 * c + n ∨ (30 * c ≤ j ∧ j < 30 * c + n)) := by omega
    simp only [e]
    by_cases h2 : j = 30 * c + n
    · subst h2; simp
    · simp [h2]
  · by_cases h1 : b = 75
    · subst h1; simp
    · by_cases h2 : b = 76
      · subst h2; by_cases q : j = c <;> simp [q]
      · by_cases h3 : b = 77
        · subst h3; by_cases q : j = c <;> simp [q]
        · by_cases h4 : b = 78
          · subst h4; by_cases q : j = c <;> simp [q]
          · simp [h0, h1, h2, h3, h4]
theorem gvP_ne (σ : Nat → Nat → Int32) (c st n : Nat) {b : Nat} (j : Nat) (h0 : b ≠ 74) (h1 : b ≠ 75) (h2 : b ≠ 76) (h3 : b ≠ 77) (h4 : b ≠ 78) : gvP σ c st n b j = σ b j := by simp [gvP, h0, h1, h2, h3, h4]
theorem dpO_ne (σ : Nat → Nat → Int32) (k : Nat) {b : Nat} (h : b ≠ 79) (j : Nat) : dpO σ k b j = σ b j := by
  induction k with
  | zero => rfl
  | succ k ih => simp [dpO, zu, h, ih]
theorem dpR_ne (σ : Nat → Nat → Int32) (k : Nat) {b : Nat} (h : b ≠ 79) (j : Nat) : dpR σ k b j = σ b j := by
  induction k with
  | zero => rfl
  | succ k ih => show dpO (dpR σ k) 12 b j = σ b j; rw [dpO_ne _ _ h, ih]
def setCF (σ : Nat → Nat → Int32) (c st n : Nat) : Nat → Nat → Int32 :=
  if σ 98 st = 0 then giveF σ c st n
  else if σ 98 st = 1 then becomeF (zu (zu (zu σ 80 c 1) 81 c (σ 100 st)) 89 c 0) c (σ 100 st)
  else zu (zu σ 80 c 0) 89 c 1
def setSF (σ : Nat → Nat → Int32) (s st : Nat) : Nat → Nat → Int32 :=
  let a1 := zu σ 82 s (if σ 98 st = 4 then σ 100 st else σ 82 s)
  let a2 := zu a1 83 s (if σ 98 st = 5 then σ 100 st else σ 83 s)
  let a3 := zu a2 85 s (if σ 98 st = 6 then σ 100 st else σ 85 s)
  let a4 := zu a3 86 s (if σ 98 st = 6 then σ 101 st else σ 86 s)
  let a5 := zu a4 87 s (if σ 98 st = 8 then σ 100 st else σ 87 s)
  let a6 := zu a5 92 s (if σ 98 st = 9 then 0 else σ 92 s)
  if σ 98 st = 7 then zu a6 84 s (if σ 101 st = 1 then σ 84 s ||| ((1 : Int32) <<< (σ 100 st &&& 31)) else σ 84 s &&& (((1 : Int32) <<< (σ 100 st &&& 31)) ^^^ (-1))) else a6
def ilI (σ : Nat → Nat → Int32) (x : Int32) : Nat → Int32
  | 0 => x
  | n + 1 => ilI σ x n ||| (if bt (ilI σ x n) n = true then hangF σ n else 0)
def ilO (σ : Nat → Nat → Int32) (x : Int32) : Nat → Int32
  | 0 => x
  | n + 1 => ilI σ (ilO σ x n) 5
def loopB (σ : Nat → Nat → Int32) (s : Nat) : Bool := bt (ilO σ (hangF σ s) 5) s
def whP (σ : Nat → Nat → Int32) : Nat → Int32
  | 0 => 0
  | n + 1 => whP σ n ||| (if 20000 ≤ σ 69 n ∧ σ 69 n ≤ 20999 then (1 : Int32) <<< ((σ 69 n - 20000) &&& 31) else 0)
theorem beS_s (σ : Nat → Nat → Int32) (i : Nat) : zu (zu (zu (zu (zu (zu (beS σ i) 82 i (-1)) 83 i (-1)) 84 i 0) 85 i 0) 86 i 0) 87 i (-1) = beS σ (i + 1) := by
  funext b j
  simp only [zu, beS]
  by_cases hb0 : b = 82
  · subst hb0
    by_cases h2 : j = i
    · subst h2; simp []
    · have h3 : (j < i + 1) ↔ j < i := by omega
      simp [h2, h3]
  by_cases hb1 : b = 83
  · subst hb1
    by_cases h2 : j = i
    · subst h2; simp []
    · have h3 : (j < i + 1) ↔ j < i := by omega
      simp [h2, h3]
  by_cases hb2 : b = 84
  · subst hb2
    by_cases h2 : j = i
    · subst h2; simp []
    · have h3 : (j < i + 1) ↔ j < i := by omega
      simp [h2, h3]
  by_cases hb3 : b = 85
  · subst hb3
    by_cases h2 : j = i
    · subst h2; simp []
    · have h3 : (j < i + 1) ↔ j < i := by omega
      simp [h2, h3]
  by_cases hb4 : b = 86
  · subst hb4
    by_cases h2 : j = i
    · subst h2; simp []
    · have h3 : (j < i + 1) ↔ j < i := by omega
      simp [h2, h3]
  by_cases hb5 : b = 87
  · subst hb5
    by_cases h2 : j = i
    · subst h2; simp []
    · have h3 : (j < i + 1) ↔ j < i := by omega
      simp [h2, h3]
  simp [hb0, hb1, hb2, hb3, hb4, hb5]
theorem beD_s (σ : Nat → Nat → Int32) (i : Nat) : zu (beD σ i) 89 i 0 = beD σ (i + 1) := by
  funext b j
  simp only [zu, beD]
  by_cases hb0 : b = 89
  · subst hb0
    by_cases h2 : j = i
    · subst h2; simp []
    · have h3 : (j < i + 1) ↔ j < i := by omega
      simp [h2, h3]
  simp [hb0]
theorem dzP_s (σ : Nat → Nat → Int32) (i : Nat) : zu (dzP σ i) 79 i 0 = dzP σ (i + 1) := by
  funext b j
  simp only [zu, dzP]
  by_cases hb0 : b = 79
  · subst hb0
    by_cases h2 : j = i
    · subst h2; simp []
    · have h3 : (j < i + 1) ↔ j < i := by omega
      simp [h2, h3]
  simp [hb0]

set_option maxRecDepth 100000 in
set_option maxHeartbeats 4000000 in
theorem c_X9_begins {l : Launch} {Z : zZ} (hZ : zSt l Z) {μ : zMem} {σ : Nat → Nat → Int32} {π : Nat → Nat → Option Nat} {g : Nat → Nat → Int64} (hS : zRef μ π) : zCt l Z mX9_begins 1 0 0 [.ref 67] (zA4 μ σ π g) (fun r μ' => r = none ∧ μ' = zA4 μ (beginF σ) π g) := by
  refine zCt_of hZ mpX9_begins (Nat.le_of_ble_eq_true rfl) (L := [some (.ref 67), none]) rfl (fun τ hY => ?_)
  have hT := hY.1
  have loop3 : ∀ n i, i + n = 12 → zJ τ (zFn τ (fun r μ' => r = none ∧ μ' = zA4 μ (beginF σ) π g) 0 0) 127 [some (.ref 67), some (.int (nI i))] [] (zA4 μ (beD (clearF (beS (beP σ 12) 5)) i) π g) 0 0 := by
    intro n
    induction n with
    | zero =>
      intro i hi
      have : i = 12 := by omega
      subst this
      refine J_iload_n (i := 1) hT dX9_begins_127 rfl rfl ?_
      refine J_bipush (v := 12) hT dX9_begins_128 rfl ?_
      refine J_icmp_ge (tgt := 146) hT dX9_begins_130 (by decide) (fun _ => ?_) (fun q => absurd (nI_le (a := 12) (b := 12) (by decide) (by decide)) q)
      refine J_aload_n (i := 0) hT dX9_begins_146 rfl rfl ?_
      refine J_iconst (v := 0) hT dX9_begins_147 rfl ?_
      refine R_putI hT fX9_218 rfl rfl dX9_begins_148 (rk hS) ?_
      exact J_vret hT dX9_begins_151 rfl (⟨rfl, rfl⟩) (Nat.le_refl _) (Nat.le_refl _)
    | succ n ih =>
      intro i hi
      refine J_iload_n (i := 1) hT dX9_begins_127 rfl rfl ?_
      refine J_bipush (v := 12) hT dX9_begins_128 rfl ?_
      refine J_icmp_ge (tgt := 146) hT dX9_begins_130 (by decide) (fun q => absurd q (Int32.not_le.mpr (nI_lt (a := i) (b := 12) (by omega) (by decide)))) (fun _ => ?_)
      refine J_aload_n (i := 0) hT dX9_begins_133 rfl rfl ?_
      refine R_getP hT fX9_74 rfl dX9_begins_134 (rk hS) (rp_isDirty hS) ?_
      refine J_iload_n (i := 1) hT dX9_begins_137 rfl rfl ?_
      refine J_iconst (v := 0) hT dX9_begins_138 rfl ?_
      refine R_zast hT dX9_begins_139 (rk_isDirty hS) (rl_isDirty hS) (by first | exact ⟨rfl, by decide⟩ | exact zix_nI (by omega) (by decide) | assumption) (by decide) ?_
      refine S_iinc1 hT dX9_begins_140 (nI_inc _) rfl ?_
      refine J_goto (tgt := 127) hT dX9_begins_143 (by decide) ?_
      refine J_mu (congrArg (fun s => zA4 μ s π g) (beD_s _ i)) (ih (i + 1) (by omega))
  have loop2 : ∀ n i, i + n = 5 → zJ τ (zFn τ (fun r μ' => r = none ∧ μ' = zA4 μ (beginF σ) π g) 0 0) 68 [some (.ref 67), some (.int (nI i))] [] (zA4 μ (beS (beP σ 12) i) π g) 0 0 := by
    intro n
    induction n with
    | zero =>
      intro i hi
      have : i = 5 := by omega
      subst this
      refine J_iload_n (i := 1) hT dX9_begins_68 rfl rfl ?_
      refine J_iconst (v := 5) hT dX9_begins_69 rfl ?_
      refine J_icmp_ge (tgt := 121) hT dX9_begins_70 (by decide) (fun _ => ?_) (fun q => absurd (nI_le (a := 5) (b := 5) (by decide) (by decide)) q)
      refine J_aload_n (i := 0) hT dX9_begins_121 rfl rfl ?_
      refine R_callV0 (ci := 9) hY dX9_begins_122 mfX9_clears miX9_clears msX9_clears kX9_252 ⟨by decide, rfl⟩ (rk hS) (c_X9_clears hZ hS) rfl (by decide) rfl rfl (Nat.le_of_ble_eq_true rfl) (Nat.le_refl _) (Nat.le_refl _) ?_
      refine J_iconst (v := 0) hT dX9_begins_125 rfl ?_
      refine S_istore1 hT dX9_begins_126 rfl rfl ?_
      refine J_mu (congrArg (fun s => zA4 μ s π g) ((beD_0 _).symm)) (loop3 12 0 rfl)
    | succ n ih =>
      intro i hi
      refine J_iload_n (i := 1) hT dX9_begins_68 rfl rfl ?_
      refine J_iconst (v := 5) hT dX9_begins_69 rfl ?_
      refine J_icmp_ge (tgt := 121) hT dX9_begins_70 (by decide) (fun q => absurd q (Int32.not_le.mpr (nI_lt (a := i) (b := 5) (by omega) (by decide)))) (fun _ => ?_)
      refine J_aload_n (i := 0) hT dX9_begins_73 rfl rfl ?_
      refine R_getP hT fX9_53 rfl dX9_begins_74 (rk hS) (rp_control hS) ?_
      refine J_iload_n (i := 1) hT dX9_begins_77 rfl rfl ?_
      refine J_iconst (v := -1) hT dX9_begins_78 rfl ?_
      refine R_iast hT dX9_begins_79 (rk_control hS) (rl_control hS) (by first | exact ⟨rfl, by decide⟩ | exact zix_nI (by omega) (by decide) | assumption) ?_
      refine J_aload_n (i := 0) hT dX9_begins_80 rfl rfl ?_
      refine R_getP hT fX9_56 rfl dX9_begins_81 (rk hS) (rp_limit hS) ?_
      refine J_iload_n (i := 1) hT dX9_begins_84 rfl rfl ?_
      refine J_iconst (v := -1) hT dX9_begins_85 rfl ?_
      refine R_iast hT dX9_begins_86 (rk_limit hS) (rl_limit hS) (by first | exact ⟨rfl, by decide⟩ | exact zix_nI (by omega) (by decide) | assumption) ?_
      refine J_aload_n (i := 0) hT dX9_begins_87 rfl rfl ?_
      refine R_getP hT fX9_59 rfl dX9_begins_88 (rk hS) (rp_needs hS) ?_
      refine J_iload_n (i := 1) hT dX9_begins_91 rfl rfl ?_
      refine J_iconst (v := 0) hT dX9_begins_92 rfl ?_
      refine R_iast hT dX9_begins_93 (rk_needs hS) (rl_needs hS) (by first | exact ⟨rfl, by decide⟩ | exact zix_nI (by omega) (by decide) | assumption) ?_
      refine J_aload_n (i := 0) hT dX9_begins_94 rfl rfl ?_
      refine R_getP hT fX9_62 rfl dX9_begins_95 (rk hS) (rp_demand hS) ?_
      refine J_iload_n (i := 1) hT dX9_begins_98 rfl rfl ?_
      refine J_iconst (v := 0) hT dX9_begins_99 rfl ?_
      refine R_iast hT dX9_begins_100 (rk_demand hS) (rl_demand hS) (by first | exact ⟨rfl, by decide⟩ | exact zix_nI (by omega) (by decide) | assumption) ?_
      refine J_aload_n (i := 0) hT dX9_begins_101 rfl rfl ?_
      refine R_getP hT fX9_65 rfl dX9_begins_102 (rk hS) (rp_delay hS) ?_
      refine J_iload_n (i := 1) hT dX9_begins_105 rfl rfl ?_
      refine J_iconst (v := 0) hT dX9_begins_106 rfl ?_
      refine R_iast hT dX9_begins_107 (rk_delay hS) (rl_delay hS) (by first | exact ⟨rfl, by decide⟩ | exact zix_nI (by omega) (by decide) | assumption) ?_
      refine J_aload_n (i := 0) hT dX9_begins_108 rfl rfl ?_
      refine R_getP hT fX9_68 rfl dX9_begins_109 (rk hS) (rp_lie hS) ?_
      refine J_iload_n (i := 1) hT dX9_begins_112 rfl rfl ?_
      refine J_iconst (v := -1) hT dX9_begins_113 rfl ?_
      refine R_iast hT dX9_begins_114 (rk_lie hS) (rl_lie hS) (by first | exact ⟨rfl, by decide⟩ | exact zix_nI (by omega) (by decide) | assumption) ?_
      refine S_iinc1 hT dX9_begins_115 (nI_inc _) rfl ?_
      refine J_goto (tgt := 68) hT dX9_begins_118 (by decide) ?_
      refine J_mu (congrArg (fun s => zA4 μ s π g) (beS_s _ i)) (ih (i + 1) (by omega))
  have loop : ∀ n i, i + n = 12 → zJ τ (zFn τ (fun r μ' => r = none ∧ μ' = zA4 μ (beginF σ) π g) 0 0) 2 [some (.ref 67), some (.int (nI i))] [] (zA4 μ (beP σ i) π g) 0 0 := by
    intro n
    induction n with
    | zero =>
      intro i hi
      have : i = 12 := by omega
      subst this
      refine J_iload_n (i := 1) hT dX9_begins_2 rfl rfl ?_
      refine J_bipush (v := 12) hT dX9_begins_3 rfl ?_
      refine J_icmp_ge (tgt := 66) hT dX9_begins_5 (by decide) (fun _ => ?_) (fun q => absurd (nI_le (a := 12) (b := 12) (by decide) (by decide)) q)
      refine J_iconst (v := 0) hT dX9_begins_66 rfl ?_
      refine S_istore1 hT dX9_begins_67 rfl rfl ?_
      refine J_mu (congrArg (fun s => zA4 μ s π g) ((beS_0 _).symm)) (loop2 5 0 rfl)
    | succ n ih =>
      intro i hi
      refine J_iload_n (i := 1) hT dX9_begins_2 rfl rfl ?_
      refine J_bipush (v := 12) hT dX9_begins_3 rfl ?_
      refine J_icmp_ge (tgt := 66) hT dX9_begins_5 (by decide) (fun q => absurd q (Int32.not_le.mpr (nI_lt (a := i) (b := 12) (by omega) (by decide)))) (fun _ => ?_)
      refine J_aload_n (i := 0) hT dX9_begins_8 rfl rfl ?_
      refine R_getP hT fX9_29 rfl dX9_begins_9 (rk hS) (rp_code hS) ?_
      refine J_bipush (v := 30) hT dX9_begins_12 rfl ?_
      refine J_iload_n (i := 1) hT dX9_begins_14 rfl rfl ?_
      refine J_imul hT dX9_begins_15 ?_
      refine J_topil (nI_mul 30 i) ?_
      
      refine J_iconst (v := 0) hT dX9_begins_16 rfl ?_
      refine R_iast hT dX9_begins_17 (rk_code hS) (rl_code hS) (zix_nI (j := 30 * i) (by omega) (by decide)) ?_
      refine J_aload_n (i := 0) hT dX9_begins_18 rfl rfl ?_
      refine R_getP hT fX9_32 rfl dX9_begins_19 (rk hS) (rp_codeLength hS) ?_
      refine J_iload_n (i := 1) hT dX9_begins_22 rfl rfl ?_
      refine J_iconst (v := 1) hT dX9_begins_23 rfl ?_
      refine R_iast hT dX9_begins_24 (rk_codeLength hS) (rl_codeLength hS) (by first | exact ⟨rfl, by decide⟩ | exact zix_nI (by omega) (by decide) | assumption) ?_
      refine J_aload_n (i := 0) hT dX9_begins_25 rfl rfl ?_
      refine R_getP hT fX9_35 rfl dX9_begins_26 (rk hS) (rp_readsCells hS) ?_
      refine J_iload_n (i := 1) hT dX9_begins_29 rfl rfl ?_
      refine J_iconst (v := 0) hT dX9_begins_30 rfl ?_
      refine R_iast hT dX9_begins_31 (rk_readsCells hS) (rl_readsCells hS) (by first | exact ⟨rfl, by decide⟩ | exact zix_nI (by omega) (by decide) | assumption) ?_
      refine J_aload_n (i := 0) hT dX9_begins_32 rfl rfl ?_
      refine R_getP hT fX9_38 rfl dX9_begins_33 (rk hS) (rp_readsReadings hS) ?_
      refine J_iload_n (i := 1) hT dX9_begins_36 rfl rfl ?_
      refine J_iconst (v := 0) hT dX9_begins_37 rfl ?_
      refine R_iast hT dX9_begins_38 (rk_readsReadings hS) (rl_readsReadings hS) (by first | exact ⟨rfl, by decide⟩ | exact zix_nI (by omega) (by decide) | assumption) ?_
      refine J_aload_n (i := 0) hT dX9_begins_39 rfl rfl ?_
      refine R_getP hT fX9_41 rfl dX9_begins_40 (rk hS) (rp_readsLoads hS) ?_
      refine J_iload_n (i := 1) hT dX9_begins_43 rfl rfl ?_
      refine J_iconst (v := 0) hT dX9_begins_44 rfl ?_
      refine R_iast hT dX9_begins_45 (rk_readsLoads hS) (rl_readsLoads hS) (by first | exact ⟨rfl, by decide⟩ | exact zix_nI (by omega) (by decide) | assumption) ?_
      refine J_aload_n (i := 0) hT dX9_begins_46 rfl rfl ?_
      refine R_getP hT fX9_44 rfl dX9_begins_47 (rk hS) (rp_depth hS) ?_
      refine J_iload_n (i := 1) hT dX9_begins_50 rfl rfl ?_
      refine J_iconst (v := 0) hT dX9_begins_51 rfl ?_
      refine R_iast hT dX9_begins_52 (rk_depth hS) (rl_depth hS) (by first | exact ⟨rfl, by decide⟩ | exact zix_nI (by omega) (by decide) | assumption) ?_
      refine J_aload_n (i := 0) hT dX9_begins_53 rfl rfl ?_
      refine R_getP hT fX9_47 rfl dX9_begins_54 (rk hS) (rp_isHeld hS) ?_
      refine J_iload_n (i := 1) hT dX9_begins_57 rfl rfl ?_
      refine J_iconst (v := 0) hT dX9_begins_58 rfl ?_
      refine R_zast hT dX9_begins_59 (rk_isHeld hS) (rl_isHeld hS) (by first | exact ⟨rfl, by decide⟩ | exact zix_nI (by omega) (by decide) | assumption) (by decide) ?_
      refine S_iinc1 hT dX9_begins_60 (nI_inc _) rfl ?_
      refine J_goto (tgt := 2) hT dX9_begins_63 (by decide) ?_
      refine J_mu (congrArg (fun s => zA4 μ s π g) (beP_s _ i)) (ih (i + 1) (by omega))
  refine J_mu (congrArg (fun s => zA4 μ s π g) (beP_0 σ).symm) ?_
  refine J_iconst (v := 0) hT dX9_begins_0 rfl ?_
  refine S_istore1 hT dX9_begins_1 rfl rfl ?_
  exact loop 12 0 rfl

set_option maxRecDepth 100000 in
set_option maxHeartbeats 4000000 in
theorem c_X9_hangsOn {l : Launch} {Z : zZ} (hZ : zSt l Z) {μ : zMem} {σ : Nat → Nat → Int32} {π : Nat → Nat → Option Nat} {g : Nat → Nat → Int64} (hS : zRef μ π) {s : Nat} (hs : s < 5) : zCt l Z mX9_hangsOn 2 0 0 [.ref 67, .int (nI s)] (zA4 μ σ π g) (fun r μ' => r = some (.int (hangF σ s)) ∧ μ' = zA4 μ σ π g) := by
  refine zCt_of hZ mpX9_hangsOn (Nat.le_of_ble_eq_true rfl) (L := [some (.ref 67), some (.int (nI s)), none, none, none, none]) rfl (fun τ hY => ?_)
  have hT := hY.1
  have loop : ∀ n i, i + n = 12 → zJ τ (zFn τ (fun r μ' => r = some (.int (hangF σ s)) ∧ μ' = zA4 μ σ π g) 0 0) 62 [some (.ref 67), some (.int (nI s)), some (.int (ctlM (σ 82 s) ||| ctlM (σ 83 s))), some (.int (belF σ false (ctlM (σ 82 s) ||| ctlM (σ 83 s)))), some (.int (hgP σ (belF σ false (ctlM (σ 82 s) ||| ctlM (σ 83 s))) (σ 84 s) i)), some (.int (nI i))] [] (zA4 μ (σ) π g) 0 0 := by
    intro n
    induction n with
    | zero =>
      intro i hi
      have : i = 12 := by omega
      subst this
      refine J_iload (i := 5) hT dX9_hangsOn_62 rfl ?_
      refine J_bipush (v := 12) hT dX9_hangsOn_64 rfl ?_
      refine J_icmp_ge (tgt := 100) hT dX9_hangsOn_66 (by decide) (fun _ => ?_) (fun q => absurd (nI_le (a := 12) (b := 12) (by decide) (by decide)) q)
      refine J_iload (i := 4) hT dX9_hangsOn_100 rfl ?_
      exact J_iret hT dX9_hangsOn_102 rfl rfl (⟨by rfl, rfl⟩) (Nat.le_refl _) (Nat.le_refl _)
    | succ n ih =>
      intro i hi
      refine J_iload (i := 5) hT dX9_hangsOn_62 rfl ?_
      refine J_bipush (v := 12) hT dX9_hangsOn_64 rfl ?_
      refine J_icmp_ge (tgt := 100) hT dX9_hangsOn_66 (by decide) (fun q => absurd q (Int32.not_le.mpr (nI_lt (a := i) (b := 12) (by omega) (by decide)))) (fun _ => ?_)
      refine J_iload (i := 4) hT dX9_hangsOn_69 rfl ?_
      refine J_iload_n (i := 3) hT dX9_hangsOn_71 rfl rfl ?_
      refine J_iload (i := 5) hT dX9_hangsOn_72 rfl ?_
      refine R_callS1 hY dX9_hangsOn_74 mfX9_has mtX9_has kX9_197 (c_X9_has hZ (by omega)) rfl (by decide) rfl rfl (Nat.le_of_ble_eq_true rfl) (Nat.le_refl _) (Nat.le_refl _) ?_
      refine J_if_eq (tgt := 90) hT dX9_hangsOn_77 (by decide) (fun q77 => ?_) (fun q77 => ?_)
      · refine J_iconst (v := 0) hT dX9_hangsOn_90 rfl ?_
        refine J_topil (y := if bt (belF σ false (ctlM (σ 82 s) ||| ctlM (σ 83 s))) i then σ 78 i else 0) ?_ ?_
        · simp only [zbi_0, zbi_ne] at *
          simp_all
        refine J_ior hT dX9_hangsOn_91 ?_
        refine S_istore4 hT dX9_hangsOn_92 rfl ?_
        refine S_iinc5 hT dX9_hangsOn_94 (nI_inc _) rfl ?_
        refine J_goto (tgt := 62) hT dX9_hangsOn_97 (by decide) ?_
        exact ih (i + 1) (by omega)
      · refine J_aload_n (i := 0) hT dX9_hangsOn_80 rfl rfl ?_
        refine R_getP hT fX9_41 rfl dX9_hangsOn_81 (rk hS) (rp_readsLoads hS) ?_
        refine J_iload (i := 5) hT dX9_hangsOn_84 rfl ?_
        refine R_iald hT dX9_hangsOn_86 (rk_readsLoads hS) (rl_readsLoads hS) (by first | exact ⟨rfl, by decide⟩ | exact zix_nI (by omega) (by decide) | assumption) ?_
        refine J_goto (tgt := 91) hT dX9_hangsOn_87 (by decide) ?_
        refine J_topil (y := if bt (belF σ false (ctlM (σ 82 s) ||| ctlM (σ 83 s))) i then σ 78 i else 0) ?_ ?_
        · simp only [zbi_0, zbi_ne] at *
          simp_all
        refine J_ior hT dX9_hangsOn_91 ?_
        refine S_istore4 hT dX9_hangsOn_92 rfl ?_
        refine S_iinc5 hT dX9_hangsOn_94 (nI_inc _) rfl ?_
        refine J_goto (tgt := 62) hT dX9_hangsOn_97 (by decide) ?_
        exact ih (i + 1) (by omega)
  have key : zJ τ (zFn τ (fun r μ' => r = some (.int (hangF σ s)) ∧ μ' = zA4 μ σ π g) 0 0) 44 [some (.ref 67), some (.int (nI s)), some (.int (ctlM (σ 82 s) ||| ctlM (σ 83 s))), none, none, none] [] (zA4 μ (σ) π g) 0 0 := by
    refine J_aload_n (i := 0) hT dX9_hangsOn_44 rfl rfl ?_
    refine J_iload_n (i := 2) hT dX9_hangsOn_45 rfl rfl ?_
    refine J_iconst (v := 0) hT dX9_hangsOn_46 rfl ?_
    refine R_callV1 (ci := 9) hY dX9_hangsOn_47 mfX9_below miX9_below msX9_below kX9_221 ⟨by decide, rfl⟩ (rk hS) (c_X9_below hZ hS (h := false)) rfl (by decide) rfl rfl (Nat.le_of_ble_eq_true rfl) (Nat.le_refl _) (Nat.le_refl _) ?_
    refine S_istore3 hT dX9_hangsOn_50 rfl rfl ?_
    refine J_aload_n (i := 0) hT dX9_hangsOn_51 rfl rfl ?_
    refine R_getP hT fX9_59 rfl dX9_hangsOn_52 (rk hS) (rp_needs hS) ?_
    refine J_iload_n (i := 1) hT dX9_hangsOn_55 rfl rfl ?_
    refine R_iald hT dX9_hangsOn_56 (rk_needs hS) (rl_needs hS) (by first | exact ⟨rfl, by decide⟩ | exact zix_nI (by omega) (by decide) | assumption) ?_
    refine S_istore4 hT dX9_hangsOn_57 rfl ?_
    refine J_iconst (v := 0) hT dX9_hangsOn_59 rfl ?_
    refine S_istore5 hT dX9_hangsOn_60 rfl ?_
    exact loop 12 0 rfl
  refine J_aload_n (i := 0) hT dX9_hangsOn_0 rfl rfl ?_
  refine R_getP hT fX9_53 rfl dX9_hangsOn_1 (rk hS) (rp_control hS) ?_
  refine J_iload_n (i := 1) hT dX9_hangsOn_4 rfl rfl ?_
  refine R_iald hT dX9_hangsOn_5 (rk_control hS) (rl_control hS) (by first | exact ⟨rfl, by decide⟩ | exact zix_nI (by omega) (by decide) | assumption) ?_
  refine J_if_ge (tgt := 13) hT dX9_hangsOn_6 (by decide) (fun q6 => ?_) (fun q6 => ?_)
  · refine J_iconst (v := 1) hT dX9_hangsOn_13 rfl ?_
    refine J_aload_n (i := 0) hT dX9_hangsOn_14 rfl rfl ?_
    refine R_getP hT fX9_53 rfl dX9_hangsOn_15 (rk hS) (rp_control hS) ?_
    refine J_iload_n (i := 1) hT dX9_hangsOn_18 rfl rfl ?_
    refine R_iald hT dX9_hangsOn_19 (rk_control hS) (rl_control hS) (by first | exact ⟨rfl, by decide⟩ | exact zix_nI (by omega) (by decide) | assumption) ?_
    refine J_ishl hT dX9_hangsOn_20 ?_
    refine J_aload_n (i := 0) hT dX9_hangsOn_21 rfl rfl ?_
    refine R_getP hT fX9_56 rfl dX9_hangsOn_22 (rk hS) (rp_limit hS) ?_
    refine J_iload_n (i := 1) hT dX9_hangsOn_25 rfl rfl ?_
    refine R_iald hT dX9_hangsOn_26 (rk_limit hS) (rl_limit hS) (by first | exact ⟨rfl, by decide⟩ | exact zix_nI (by omega) (by decide) | assumption) ?_
    refine J_if_ge (tgt := 34) hT dX9_hangsOn_27 (by decide) (fun q27 => ?_) (fun q27 => ?_)
    · refine J_iconst (v := 1) hT dX9_hangsOn_34 rfl ?_
      refine J_aload_n (i := 0) hT dX9_hangsOn_35 rfl rfl ?_
      refine R_getP hT fX9_56 rfl dX9_hangsOn_36 (rk hS) (rp_limit hS) ?_
      refine J_iload_n (i := 1) hT dX9_hangsOn_39 rfl rfl ?_
      refine R_iald hT dX9_hangsOn_40 (rk_limit hS) (rl_limit hS) (by first | exact ⟨rfl, by decide⟩ | exact zix_nI (by omega) (by decide) | assumption) ?_
      refine J_ishl hT dX9_hangsOn_41 ?_
      refine J_ior hT dX9_hangsOn_42 ?_
      refine J_topil (y := (ctlM (σ 82 s) ||| ctlM (σ 83 s))) ?_ ?_
      · simp only [ctlM, ge_iff_le, ← Int32.not_lt, Decidable.not_not] at *
        simp_all [-Int32.not_lt]
      refine S_istore2 hT dX9_hangsOn_43 rfl rfl ?_
      exact key
    · refine J_iconst (v := 0) hT dX9_hangsOn_30 rfl ?_
      refine J_goto (tgt := 42) hT dX9_hangsOn_31 (by decide) ?_
      refine J_ior hT dX9_hangsOn_42 ?_
      refine J_topil (y := (ctlM (σ 82 s) ||| ctlM (σ 83 s))) ?_ ?_
      · simp only [ctlM, ge_iff_le, ← Int32.not_lt, Decidable.not_not] at *
        simp_all [-Int32.not_lt]
      refine S_istore2 hT dX9_hangsOn_43 rfl rfl ?_
      exact key
  · refine J_iconst (v := 0) hT dX9_hangsOn_9 rfl ?_
    refine J_goto (tgt := 21) hT dX9_hangsOn_10 (by decide) ?_
    refine J_aload_n (i := 0) hT dX9_hangsOn_21 rfl rfl ?_
    refine R_getP hT fX9_56 rfl dX9_hangsOn_22 (rk hS) (rp_limit hS) ?_
    refine J_iload_n (i := 1) hT dX9_hangsOn_25 rfl rfl ?_
    refine R_iald hT dX9_hangsOn_26 (rk_limit hS) (rl_limit hS) (by first | exact ⟨rfl, by decide⟩ | exact zix_nI (by omega) (by decide) | assumption) ?_
    refine J_if_ge (tgt := 34) hT dX9_hangsOn_27 (by decide) (fun q27 => ?_) (fun q27 => ?_)
    · refine J_iconst (v := 1) hT dX9_hangsOn_34 rfl ?_
      refine J_aload_n (i := 0) hT dX9_hangsOn_35 rfl rfl ?_
      refine R_getP hT fX9_56 rfl dX9_hangsOn_36 (rk hS) (rp_limit hS) ?_
      refine J_iload_n (i := 1) hT dX9_hangsOn_39 rfl rfl ?_
      refine R_iald hT dX9_hangsOn_40 (rk_limit hS) (rl_limit hS) (by first | exact ⟨rfl, by decide⟩ | exact zix_nI (by omega) (by decide) | assumption) ?_
      refine J_ishl hT dX9_hangsOn_41 ?_
      refine J_ior hT dX9_hangsOn_42 ?_
      refine J_topil (y := (ctlM (σ 82 s) ||| ctlM (σ 83 s))) ?_ ?_
      · simp only [ctlM, ge_iff_le, ← Int32.not_lt, Decidable.not_not] at *
        simp_all [-Int32.not_lt]
      refine S_istore2 hT dX9_hangsOn_43 rfl rfl ?_
      exact key
    · refine J_iconst (v := 0) hT dX9_hangsOn_30 rfl ?_
      refine J_goto (tgt := 42) hT dX9_hangsOn_31 (by decide) ?_
      refine J_ior hT dX9_hangsOn_42 ?_
      refine J_topil (y := (ctlM (σ 82 s) ||| ctlM (σ 83 s))) ?_ ?_
      · simp only [ctlM, ge_iff_le, ← Int32.not_lt, Decidable.not_not] at *
        simp_all [-Int32.not_lt]
      refine S_istore2 hT dX9_hangsOn_43 rfl rfl ?_
      exact key

theorem belP_congr {σ σ' : Nat → Nat → Int32} (h1 : ∀ j, σ' 80 j = σ 80 j) (h2 : ∀ j, σ' 76 j = σ 76 j) (h : Bool) (x : Int32) (n : Nat) : belP σ' h x n = belP σ h x n := by
  induction n with
  | zero => rfl
  | succ n ih => simp only [belP, ih, h1, h2]
theorem belF_congr {σ σ' : Nat → Nat → Int32} (h1 : ∀ j, σ' 80 j = σ 80 j) (h2 : ∀ j, σ' 76 j = σ 76 j) (h : Bool) (x : Int32) : belF σ' h x = belF σ h x := by
  have : ∀ r, belR σ' h x r = belR σ h x r := by
    intro r
    induction r with
    | zero => rfl
    | succ r ih => simp only [belR, ih, belP_congr h1 h2]
  exact this 12
theorem hangF_congr {σ σ' : Nat → Nat → Int32} (h : ∀ b j, b ≠ 67 → σ' b j = σ b j) (s : Nat) : hangF σ' s = hangF σ s := by
  have e : ∀ x y n, hgP σ' x y n = hgP σ x y n := by
    intro x y n
    induction n with
    | zero => rfl
    | succ n ih => simp only [hgP, ih, h 78 n (by decide)]
  unfold hangF
  rw [e, belF_congr (fun j => h _ j (by decide)) (fun j => h _ j (by decide)), h _ _ (by decide), h _ _ (by decide), h _ _ (by decide)]
theorem loopB_congr {σ σ' : Nat → Nat → Int32} (h : ∀ b j, b ≠ 67 → σ' b j = σ b j) (s : Nat) : loopB σ' s = loopB σ s := by
  have e : ∀ n x, ilI σ' x n = ilI σ x n := by
    intro n x
    induction n with
    | zero => rfl
    | succ n ih => simp only [ilI, ih, hangF_congr h]
  have e2 : ∀ n x, ilO σ' x n = ilO σ x n := by
    intro n x
    induction n with
    | zero => rfl
    | succ n ih => simp only [ilO, ih, e]
  unfold loopB
  rw [e2, hangF_congr h]

set_option maxRecDepth 100000 in
set_option maxHeartbeats 4000000 in
theorem c_X9_isLoop {l : Launch} {Z : zZ} (hZ : zSt l Z) {μ : zMem} {σ : Nat → Nat → Int32} {π : Nat → Nat → Option Nat} {g : Nat → Nat → Int64} (hS : zRef μ π) {s : Nat} (hs : s < 5) : zCt l Z mX9_isLoop 3 0 0 [.ref 67, .int (nI s)] (zA4 μ σ π g) (fun r μ' => r = some (.int (zbi (loopB σ s))) ∧ μ' = zA4 μ (zu σ 67 45 0) π g) := by
  refine zCt_of hZ mpX9_isLoop (Nat.le_of_ble_eq_true rfl) (L := [some (.ref 67), some (.int (nI s)), none, none, none]) rfl (fun τ hY => ?_)
  have hT := hY.1
  have main : ∀ σ : Nat → Nat → Int32, zJ τ (zFn τ (fun r μ' => r = some (.int (zbi (loopB σ s))) ∧ μ' = zA4 μ σ π g) 0 0) 15 [some (.ref 67), some (.int (nI s)), none, none, none] [] (zA4 μ (σ) π g) 0 0 := by
    intro σ
    have loop : ∀ n i, i + n = 5 → zJ τ (zFn τ (fun r μ' => r = some (.int (zbi (loopB σ s))) ∧ μ' = zA4 μ σ π g) 0 0) 23 [some (.ref 67), some (.int (nI s)), some (.int (ilO σ (hangF σ s) i)), some (.int (nI i)), none] [] (zA4 μ (σ) π g) 0 0 := by
      intro n
      induction n with
      | zero =>
        intro i hi
        have : i = 5 := by omega
        subst this
        refine J_iload_n (i := 3) hT dX9_isLoop_23 rfl rfl ?_
        refine J_iconst (v := 5) hT dX9_isLoop_24 rfl ?_
        refine J_icmp_ge (tgt := 71) hT dX9_isLoop_25 (by decide) (fun _ => ?_) (fun q => absurd (nI_le (a := 5) (b := 5) (by decide) (by decide)) q)
        refine J_iload_n (i := 2) hT dX9_isLoop_71 rfl rfl ?_
        refine J_iload_n (i := 1) hT dX9_isLoop_72 rfl rfl ?_
        refine R_callS1 hY dX9_isLoop_73 mfX9_has mtX9_has kX9_197 (c_X9_has hZ (by omega)) rfl (by decide) rfl rfl (Nat.le_of_ble_eq_true rfl) (Nat.le_refl _) (Nat.le_refl _) ?_
        exact J_iret hT dX9_isLoop_76 rfl (zbi_nar _) (⟨rfl, rfl⟩) (Nat.le_refl _) (Nat.le_refl _)
      | succ n ih =>
        intro i hi
        have inner : ∀ n2 k, k + n2 = 5 → zJ τ (zFn τ (fun r μ' => r = some (.int (zbi (loopB σ s))) ∧ μ' = zA4 μ σ π g) 0 0) 31 [some (.ref 67), some (.int (nI s)), some (.int (ilI σ (ilO σ (hangF σ s) i) k)), some (.int (nI i)), some (.int (nI k))] [] (zA4 μ (σ) π g) 0 0 := by
          intro n2
          induction n2 with
          | zero =>
            intro k hk
            have : k = 5 := by omega
            subst this
            refine J_iload (i := 4) hT dX9_isLoop_31 rfl ?_
            refine J_iconst (v := 5) hT dX9_isLoop_33 rfl ?_
            refine J_icmp_ge (tgt := 65) hT dX9_isLoop_34 (by decide) (fun _ => ?_) (fun q => absurd (nI_le (a := 5) (b := 5) (by decide) (by decide)) q)
            refine S_iinc3 hT dX9_isLoop_65 (nI_inc _) rfl ?_
            refine J_goto (tgt := 23) hT dX9_isLoop_68 (by decide) ?_
            refine J_L (L' := [_, _, _, _, none]) (zsub_keep (zsub_keep (zsub_keep (zsub_keep (zsub_drop (zsub_refl _)))))) ?_
            exact ih (i + 1) (by omega)
          | succ n2 ih2 =>
            intro k hk
            refine J_iload (i := 4) hT dX9_isLoop_31 rfl ?_
            refine J_iconst (v := 5) hT dX9_isLoop_33 rfl ?_
            refine J_icmp_ge (tgt := 65) hT dX9_isLoop_34 (by decide) (fun q => absurd q (Int32.not_le.mpr (nI_lt (a := k) (b := 5) (by omega) (by decide)))) (fun _ => ?_)
            refine J_iload_n (i := 2) hT dX9_isLoop_37 rfl rfl ?_
            refine J_iload_n (i := 2) hT dX9_isLoop_38 rfl rfl ?_
            refine J_iload (i := 4) hT dX9_isLoop_39 rfl ?_
            refine R_callS1 hY dX9_isLoop_41 mfX9_has mtX9_has kX9_197 (c_X9_has hZ (by omega)) rfl (by decide) rfl rfl (Nat.le_of_ble_eq_true rfl) (Nat.le_refl _) (Nat.le_refl _) ?_
            refine J_if_eq (tgt := 56) hT dX9_isLoop_44 (by decide) (fun q44 => ?_) (fun q44 => ?_)
            · refine J_iconst (v := 0) hT dX9_isLoop_56 rfl ?_
              refine J_topil (y := if bt (ilI σ (ilO σ (hangF σ s) i) k) k = true then hangF σ k else 0) ?_ ?_
              · simp only [zbi_0, zbi_ne] at *
                simp_all
              refine J_ior hT dX9_isLoop_57 ?_
              refine S_istore2 hT dX9_isLoop_58 rfl rfl ?_
              refine S_iinc4 hT dX9_isLoop_59 (nI_inc _) rfl ?_
              refine J_goto (tgt := 31) hT dX9_isLoop_62 (by decide) ?_
              exact ih2 (k + 1) (by omega)
            · refine J_aload_n (i := 0) hT dX9_isLoop_47 rfl rfl ?_
              refine J_iload (i := 4) hT dX9_isLoop_48 rfl ?_
              refine R_callV1 (ci := 9) hY dX9_isLoop_50 mfX9_hangsOn miX9_hangsOn msX9_hangsOn kX9_311 ⟨by decide, rfl⟩ (rk hS) (c_X9_hangsOn hZ hS (by omega)) rfl (by decide) rfl rfl (Nat.le_of_ble_eq_true rfl) (Nat.le_refl _) (Nat.le_refl _) ?_
              refine J_goto (tgt := 57) hT dX9_isLoop_53 (by decide) ?_
              refine J_topil (y := if bt (ilI σ (ilO σ (hangF σ s) i) k) k = true then hangF σ k else 0) ?_ ?_
              · simp only [zbi_0, zbi_ne] at *
                simp_all
              refine J_ior hT dX9_isLoop_57 ?_
              refine S_istore2 hT dX9_isLoop_58 rfl rfl ?_
              refine S_iinc4 hT dX9_isLoop_59 (nI_inc _) rfl ?_
              refine J_goto (tgt := 31) hT dX9_isLoop_62 (by decide) ?_
              exact ih2 (k + 1) (by omega)
        refine J_iload_n (i := 3) hT dX9_isLoop_23 rfl rfl ?_
        refine J_iconst (v := 5) hT dX9_isLoop_24 rfl ?_
        refine J_icmp_ge (tgt := 71) hT dX9_isLoop_25 (by decide) (fun q => absurd q (Int32.not_le.mpr (nI_lt (a := i) (b := 5) (by omega) (by decide)))) (fun _ => ?_)
        refine J_iconst (v := 0) hT dX9_isLoop_28 rfl ?_
        refine S_istore4 hT dX9_isLoop_29 rfl ?_
        exact inner 5 0 rfl
    refine J_aload_n (i := 0) hT dX9_isLoop_15 rfl rfl ?_
    refine J_iload_n (i := 1) hT dX9_isLoop_16 rfl rfl ?_
    refine R_callV1 (ci := 9) hY dX9_isLoop_17 mfX9_hangsOn miX9_hangsOn msX9_hangsOn kX9_311 ⟨by decide, rfl⟩ (rk hS) (c_X9_hangsOn hZ hS hs) rfl (by decide) rfl rfl (Nat.le_of_ble_eq_true rfl) (Nat.le_refl _) (Nat.le_refl _) ?_
    refine S_istore2 hT dX9_isLoop_20 rfl rfl ?_
    refine J_iconst (v := 0) hT dX9_isLoop_21 rfl ?_
    refine S_istore3 hT dX9_isLoop_22 rfl rfl ?_
    exact loop 5 0 rfl
  have e := loopB_congr (σ := σ) (σ' := zu σ 67 45 0) (fun b j hb => by simp [zu, hb]) s
  have hv : (decide ((0 : Int32) ≤ nI s) && decide (nI s < 5)) = true := by
    have h1 := nI_pos' (n := s) (by omega)
    have h2 := nI_lt (a := s) (b := 5) hs (by decide)
    have h3 : nI s < 5 := h2
    simp [h1, h3]
  refine J_aload_n (i := 0) hT dX9_isLoop_0 rfl rfl ?_
  refine J_iload_n (i := 1) hT dX9_isLoop_1 rfl rfl ?_
  refine R_callS1 hY dX9_isLoop_2 mfX9_isService mtX9_isService kX9_300 (c_X9_isService hZ) rfl (by decide) rfl rfl (Nat.le_of_ble_eq_true rfl) (Nat.le_refl _) (Nat.le_refl _) ?_
  refine J_iconst (v := 1) hT dX9_isLoop_5 rfl ?_
  refine J_iconst (v := 1) hT dX9_isLoop_6 rfl ?_
  refine R_callV1 (ci := 9) hY dX9_isLoop_7 mfX9_goes miX9_goes msX9_goes kX9_150 ⟨by decide, rfl⟩ (rk hS) (c_X9_goes hZ hS) rfl (by decide) rfl rfl (Nat.le_of_ble_eq_true rfl) (Nat.le_refl _) (Nat.le_refl _) ?_
  rw [hv]
  refine J_if_ne (tgt := 15) hT dX9_isLoop_10 (by decide) (fun _ => ?_) (fun q => absurd q (by decide))
  rw [← e]
  exact main _
