
theorem wantP_F (σ : Nat → Nat → Int32) (s : Nat) : ∀ i d, wantP σ s i = false → wantP σ s (i + d) = false := by
  intro i d h
  induction d with
  | zero => exact h
  | succ d ih => rw [← Nat.add_assoc, wantP_s, ih]; rfl
def okC (x : Int32) : Prop := x = -1 ∨ ∃ c, c < 12 ∧ x = nI c
/-- cells below a set: one pass over the first n cells; passes -/
def belP (σ : Nat → Nat → Int32) (h : Bool) (x : Int32) : Nat → Int32
  | 0 => x
  | n + 1 => belP σ h x n ||| (if bt (belP σ h x n) n && !(h && decide (σ 80 n ≠ 0)) then σ 76 n else 0)
def belR (σ : Nat → Nat → Int32) (h : Bool) (x : Int32) : Nat → Int32
  | 0 => x
  | r + 1 => belP σ h (belR σ h x r) 12
def belF (σ : Nat → Nat → Int32) (h : Bool) (x : Int32) : Int32 := belR σ h x 12
def oldB (σ : Nat → Nat → Int32) (w : Nat) : Bool := decide (σ 91 w < 0) || decide (10 < σ 67 34 - σ 91 w)
def stI (σ : Nat → Nat → Int32) (x : Int32) (k : Nat) : Nat → Bool
  | 0 => false
  | n + 1 => stI σ x k n || (bt x k && (decide (σ 80 k = 0) && (bt (σ 77 k) n && oldB σ n)))
def stO (σ : Nat → Nat → Int32) (x : Int32) : Nat → Bool
  | 0 => false
  | n + 1 => stO σ x n || stI σ x n 5
def staleB (σ : Nat → Nat → Int32) (c : Nat) : Bool := stO σ (belF σ true ((1 : Int32) <<< (nI c &&& 31))) 12
def runF (σ : Nat → Nat → Int32) (s : Nat) : Nat → Nat → Int32 := zu (zu σ 92 s 2) 97 s (σ 97 s + 1)
def changeF (σ : Nat → Nat → Int32) (s : Nat) : Nat → Nat → Int32 :=
  if wantP σ s 5 = false then zu σ 92 s 0
  else if σ 92 s = 0 ∧ staleB σ (σ 82 s).toNatClampNeg = false then
    (if σ 86 s = 0 then runF (zu (zu (zu σ 93 s (σ 67 34)) 94 s (σ 86 s)) 92 s 1) s else zu (zu (zu σ 93 s (σ 67 34)) 94 s (σ 86 s)) 92 s 1)
  else if σ 92 s = 1 ∧ σ 94 s ≤ σ 67 34 - σ 93 s then runF σ s
  else σ
def dpI (σ : Nat → Nat → Int32) (k : Nat) : Nat → Int32
  | 0 => 0
  | n + 1 => if bt (σ 76 k) n = true ∧ dpI σ k n < σ 79 n + 1 then σ 79 n + 1 else dpI σ k n
def dpO (σ : Nat → Nat → Int32) : Nat → Nat → Nat → Int32
  | 0 => σ
  | k + 1 => zu (dpO σ k) 79 k (dpI (dpO σ k) k 12)
def dpR (σ : Nat → Nat → Int32) : Nat → Nat → Nat → Int32
  | 0 => σ
  | r + 1 => dpO (dpR σ r) 12
def readF (σ : Nat → Nat → Int32) (w : Nat) (v : Int32) : Nat → Nat → Int32 :=
  if σ 90 w = v then zu σ 91 w (σ 67 34) else soilF (zu (zu σ 91 w (σ 67 34)) 90 w v) 77 w
def clP (σ : Nat → Nat → Int32) (n : Nat) : Nat → Nat → Int32 := fun b j =>
  if b = 88 ∧ j < n then (if σ 80 j = 0 then 0 else σ 81 j)
  else if b = 89 ∧ j < n then (if σ 80 j = 0 then 1 else 0)
  else σ b j
def clS (σ : Nat → Nat → Int32) (n : Nat) : Nat → Nat → Int32 := fun b j =>
  if b = 90 ∧ j < n then 0
  else if b = 91 ∧ j < n then -1
  else if b = 92 ∧ j < n then 0
  else if b = 95 ∧ j < n then 0
  else if b = 96 ∧ j < n then 0
  else if b = 97 ∧ j < n then 0
  else σ b j
def clearF (σ : Nat → Nat → Int32) : Nat → Nat → Int32 := zu (clS (clP σ 12) 5) 67 33 0
theorem clP_0 (σ : Nat → Nat → Int32) : clP σ 0 = σ := by funext b j; simp [clP]
theorem clS_0 (σ : Nat → Nat → Int32) : clS σ 0 = σ := by funext b j; simp [clS]
theorem clP_s (σ : Nat → Nat → Int32) (i : Nat) {v d : Int32} (hv : v = (if σ 80 i = 0 then 0 else σ 81 i)) (hd : d = (if σ 80 i = 0 then 1 else 0)) : zu (zu (clP σ i) 88 i v) 89 i d = clP σ (i + 1) := by
  funext b j
  simp only [zu, clP]
  by_cases hb0 : b = 88
  · subst hb0
    by_cases h2 : j = i
    · subst h2; simp [hv, hd]
    · have h3 : (j < i + 1) ↔ j < i := by omega
      simp [h2, h3]
  by_cases hb1 : b = 89
  · subst hb1
    by_cases h2 : j = i
    · subst h2; simp [hv, hd]
    · have h3 : (j < i + 1) ↔ j < i := by omega
      simp [h2, h3]
  simp [hb0, hb1]
theorem clS_s (σ : Nat → Nat → Int32) (i : Nat) : zu (zu (zu (zu (zu (zu (clS σ i) 90 i 0) 91 i (-1)) 92 i 0) 95 i 0) 96 i 0) 97 i 0 = clS σ (i + 1) := by
  funext b j
  simp only [zu, clS]
  by_cases hb0 : b = 90
  · subst hb0
    by_cases h2 : j = i
    · subst h2; simp []
    · have h3 : (j < i + 1) ↔ j < i := by omega
      simp [h2, h3]
  by_cases hb1 : b = 91
  · subst hb1
    by_cases h2 : j = i
    · subst h2; simp []
    · have h3 : (j < i + 1) ↔ j < i := by omega
      simp [h2, h3]
  by_cases hb2 : b = 92
  · subst hb2
    by_cases h2 : j = i
    · subst h2; simp []
    · have h3 : (j < i + 1) ↔ j < i := by omega
      simp [h2, h3]
  by_cases hb3 : b = 95
  · subst hb3
    by_cases h2 : j = i
    · subst h2; simp []
    · have h3 : (j < i + 1) ↔ j < i := by omega
      simp [h2, h3]
  by_cases hb4 : b = 96
  · subst hb4
    by_cases h2 : j = i
    · subst h2; simp []
    · have h3 : (j < i + 1) ↔ j < i := by omega
      simp [h2, h3]
  by_cases hb5 : b = 97
  · subst hb5
    by_cases h2 : j = i
    · subst h2; simp []
    · have h3 : (j < i + 1) ↔ j < i := by omega
      simp [h2, h3]
  simp [hb0, hb1, hb2, hb3, hb4, hb5]

theorem clP_held (σ : Nat → Nat → Int32) (n j : Nat) {b : Nat} (h1 : b ≠ 88) (h2 : b ≠ 89) : clP σ n b j = σ b j := by simp [clP, h1, h2]
def hgP (σ : Nat → Nat → Int32) (x y : Int32) : Nat → Int32
  | 0 => y
  | n + 1 => hgP σ x y n ||| (if bt x n then σ 78 n else 0)
def ctlM (x : Int32) : Int32 := if x < 0 then 0 else (1 : Int32) <<< (x &&& 31)
def hangF (σ : Nat → Nat → Int32) (s : Nat) : Int32 := hgP σ (belF σ false (ctlM (σ 82 s) ||| ctlM (σ 83 s))) (σ 84 s) 12

theorem okC_ix {x : Int32} (h : okC x) (h0 : ¬ x < 0) : ∃ c, c < 12 ∧ x = nI c := by
  rcases h with rfl | h
  · exact absurd (by decide) h0
  · exact h
theorem nI_tn {c : Nat} (h : c < 12) : (nI c).toNatClampNeg = c := nI_clamp (by omega)
theorem nI_n0 {c : Nat} (h : c < 12) : ¬ nI c < 0 := nI_pos (by omega)
theorem zu_ne (σ : Nat → Nat → Int32) (a i : Nat) (v : Int32) {b : Nat} (h : b ≠ a) (j : Nat) : zu σ a i v b j = σ b j := by simp [zu, h]
theorem zu_eq (σ : Nat → Nat → Int32) (a i : Nat) (v : Int32) : zu σ a i v a i = v := by simp [zu]

set_option maxRecDepth 100000 in
set_option maxHeartbeats 4000000 in
theorem c_X9_becomes {l : Launch} {Z : zZ} (hZ : zSt l Z) {μ : zMem} {σ : Nat → Nat → Int32} {π : Nat → Nat → Option Nat} {g : Nat → Nat → Int64} (hS : zRef μ π) {i : Nat} (hi : i < 12) {v : Int32} : zCt l Z mX9_becomes 2 0 0 [.ref 67, .int (nI i), .int v] (zA4 μ σ π g) (fun r μ' => r = none ∧ μ' = zA4 μ (becomeF σ i v) π g) := by
  refine zCt_of hZ mpX9_becomes (Nat.le_of_ble_eq_true rfl) (L := [some (.ref 67), some (.int (nI i)), some (.int v)]) rfl (fun τ hY => ?_)
  have hT := hY.1
  refine J_aload_n (i := 0) hT dX9_becomes_0 rfl rfl ?_
  refine R_getP hT fX9_71 rfl dX9_becomes_1 (rk hS) (rp_value hS) ?_
  refine J_iload_n (i := 1) hT dX9_becomes_4 rfl rfl ?_
  refine R_iald hT dX9_becomes_5 (rk_value hS) (rl_value hS) (by first | exact ⟨rfl, by decide⟩ | exact zix_nI (by omega) (by decide) | assumption) ?_
  refine J_iload_n (i := 2) hT dX9_becomes_6 rfl rfl ?_
  refine J_icmp_eq (tgt := 26) hT dX9_becomes_7 (by decide) (fun q7 => ?_) (fun q7 => ?_)
  · exact J_vret hT dX9_becomes_26 rfl (⟨rfl, by simp_all [becomeF]⟩) (Nat.le_refl _) (Nat.le_refl _)
  · refine J_aload_n (i := 0) hT dX9_becomes_10 rfl rfl ?_
    refine R_getP hT fX9_71 rfl dX9_becomes_11 (rk hS) (rp_value hS) ?_
    refine J_iload_n (i := 1) hT dX9_becomes_14 rfl rfl ?_
    refine J_iload_n (i := 2) hT dX9_becomes_15 rfl rfl ?_
    refine R_iast hT dX9_becomes_16 (rk_value hS) (rl_value hS) (by first | exact ⟨rfl, by decide⟩ | exact zix_nI (by omega) (by decide) | assumption) ?_
    refine J_aload_n (i := 0) hT dX9_becomes_17 rfl rfl ?_
    refine J_aload_n (i := 0) hT dX9_becomes_18 rfl rfl ?_
    refine R_getP hT fX9_35 rfl dX9_becomes_19 (rk hS) (rp_readsCells hS) ?_
    refine J_iload_n (i := 1) hT dX9_becomes_22 rfl rfl ?_
    refine R_callV0 (ci := 9) hY dX9_becomes_23 mfX9_soils miX9_soils msX9_soils kX9_201 ⟨by decide, rfl⟩ (rk hS) (c_X9_soils hZ hS (ra := 76) (by omega) (rk_readsCells hS) (rl_readsCells hS) (by decide)) rfl (by decide) rfl rfl (Nat.le_of_ble_eq_true rfl) (Nat.le_refl _) (Nat.le_refl _) ?_
    exact J_vret hT dX9_becomes_26 rfl (⟨rfl, by simp_all [becomeF]⟩) (Nat.le_refl _) (Nat.le_refl _)

set_option maxRecDepth 100000 in
set_option maxHeartbeats 4000000 in
theorem c_X9_tells {l : Launch} {Z : zZ} (hZ : zSt l Z) {μ : zMem} {σ : Nat → Nat → Int32} {π : Nat → Nat → Option Nat} {g : Nat → Nat → Int64} (hS : zRef μ π) {i : Nat} (hi : i < 5) {v : Int32} : zCt l Z mX9_tells 2 0 0 [.ref 67, .int (nI i), .int v] (zA4 μ σ π g) (fun r μ' => r = none ∧ μ' = zA4 μ (tellF σ i v) π g) := by
  refine zCt_of hZ mpX9_tells (Nat.le_of_ble_eq_true rfl) (L := [some (.ref 67), some (.int (nI i)), some (.int v)]) rfl (fun τ hY => ?_)
  have hT := hY.1
  refine J_aload_n (i := 0) hT dX9_tells_0 rfl rfl ?_
  refine R_getP hT fX9_95 rfl dX9_tells_1 (rk hS) (rp_told hS) ?_
  refine J_iload_n (i := 1) hT dX9_tells_4 rfl rfl ?_
  refine R_iald hT dX9_tells_5 (rk_told hS) (rl_told hS) (by first | exact ⟨rfl, by decide⟩ | exact zix_nI (by omega) (by decide) | assumption) ?_
  refine J_iload_n (i := 2) hT dX9_tells_6 rfl rfl ?_
  refine J_icmp_eq (tgt := 26) hT dX9_tells_7 (by decide) (fun q7 => ?_) (fun q7 => ?_)
  · exact J_vret hT dX9_tells_26 rfl (⟨rfl, by simp_all [tellF]⟩) (Nat.le_refl _) (Nat.le_refl _)
  · refine J_aload_n (i := 0) hT dX9_tells_10 rfl rfl ?_
    refine R_getP hT fX9_95 rfl dX9_tells_11 (rk hS) (rp_told hS) ?_
    refine J_iload_n (i := 1) hT dX9_tells_14 rfl rfl ?_
    refine J_iload_n (i := 2) hT dX9_tells_15 rfl rfl ?_
    refine R_iast hT dX9_tells_16 (rk_told hS) (rl_told hS) (by first | exact ⟨rfl, by decide⟩ | exact zix_nI (by omega) (by decide) | assumption) ?_
    refine J_aload_n (i := 0) hT dX9_tells_17 rfl rfl ?_
    refine J_aload_n (i := 0) hT dX9_tells_18 rfl rfl ?_
    refine R_getP hT fX9_41 rfl dX9_tells_19 (rk hS) (rp_readsLoads hS) ?_
    refine J_iload_n (i := 1) hT dX9_tells_22 rfl rfl ?_
    refine R_callV0 (ci := 9) hY dX9_tells_23 mfX9_soils miX9_soils msX9_soils kX9_201 ⟨by decide, rfl⟩ (rk hS) (c_X9_soils hZ hS (ra := 78) (by omega) (rk_readsLoads hS) (rl_readsLoads hS) (by decide)) rfl (by decide) rfl rfl (Nat.le_of_ble_eq_true rfl) (Nat.le_refl _) (Nat.le_refl _) ?_
    exact J_vret hT dX9_tells_26 rfl (⟨rfl, by simp_all [tellF]⟩) (Nat.le_refl _) (Nat.le_refl _)

set_option maxRecDepth 100000 in
set_option maxHeartbeats 4000000 in
theorem c_X9_isWanted {l : Launch} {Z : zZ} (hZ : zSt l Z) {μ : zMem} {σ : Nat → Nat → Int32} {π : Nat → Nat → Option Nat} {g : Nat → Nat → Int64} (hS : zRef μ π) {s : Nat} (hs : s < 5) (hc : okC (σ 82 s)) : zCt l Z mX9_isWanted 1 0 0 [.ref 67, .int (nI s)] (zA4 μ σ π g) (fun r μ' => r = some (.int (zbi (wantP σ s 5))) ∧ μ' = zA4 μ σ π g) := by
  refine zCt_of hZ mpX9_isWanted (Nat.le_of_ble_eq_true rfl) (L := [some (.ref 67), some (.int (nI s)), none, none]) rfl (fun τ hY => ?_)
  have hT := hY.1
  have loop : ∀ n i, i + n = 5 → zJ τ (zFn τ (fun r μ' => r = some (.int (zbi (wantP σ s 5))) ∧ μ' = zA4 μ σ π g) 0 0) 31 [some (.ref 67), some (.int (nI s)), some (.int (zbi (wantP σ s i))), some (.int (nI i))] [] (zA4 μ σ π g) 0 0 := by
    intro n
    induction n with
    | zero =>
      intro i hi
      have : i = 5 := by omega
      subst this
      refine J_iload_n (i := 3) hT dX9_isWanted_31 rfl rfl ?_
      refine J_iconst (v := 5) hT dX9_isWanted_32 rfl ?_
      refine J_icmp_ge (tgt := 75) hT dX9_isWanted_33 (by decide) (fun _ => ?_) (fun q => absurd (nI_le (a := 5) (b := 5) (by decide) (by decide)) q)
      refine J_iload_n (i := 2) hT dX9_isWanted_75 rfl rfl ?_
      exact J_iret hT dX9_isWanted_76 rfl (zbi_nar _) (⟨rfl, rfl⟩) (Nat.le_refl _) (Nat.le_refl _)
    | succ n ih =>
      intro i hi
      have hf : wantP σ s i = false → wantP σ s 5 = false := fun q => by have := wantP_F σ s i (n + 1) q; rwa [hi] at this
      refine J_iload_n (i := 3) hT dX9_isWanted_31 rfl rfl ?_
      refine J_iconst (v := 5) hT dX9_isWanted_32 rfl ?_
      refine J_icmp_ge (tgt := 75) hT dX9_isWanted_33 (by decide) (fun q => absurd q (Int32.not_le.mpr (nI_lt (a := i) (b := 5) (by omega) (by decide)))) (fun _ => ?_)
      refine J_iload_n (i := 2) hT dX9_isWanted_36 rfl rfl ?_
      refine J_if_eq (tgt := 75) hT dX9_isWanted_37 (by decide) (fun q37 => ?_) (fun q37 => ?_)
      · refine J_iload_n (i := 2) hT dX9_isWanted_75 rfl rfl ?_
        exact J_iret hT dX9_isWanted_76 rfl (zbi_nar _) (⟨by rw [hf (zbi_0.mp q37), zbi_0.mp q37], rfl⟩) (Nat.le_refl _) (Nat.le_refl _)
      · refine J_aload_n (i := 0) hT dX9_isWanted_40 rfl rfl ?_
        refine R_getP hT fX9_59 rfl dX9_isWanted_41 (rk hS) (rp_needs hS) ?_
        refine J_iload_n (i := 1) hT dX9_isWanted_44 rfl rfl ?_
        refine R_iald hT dX9_isWanted_45 (rk_needs hS) (rl_needs hS) (by first | exact ⟨rfl, by decide⟩ | exact zix_nI (by omega) (by decide) | assumption) ?_
        refine J_iload_n (i := 3) hT dX9_isWanted_46 rfl rfl ?_
        refine R_callS1 hY dX9_isWanted_47 mfX9_has mtX9_has kX9_197 (c_X9_has hZ (by omega)) rfl (by decide) rfl rfl (Nat.le_of_ble_eq_true rfl) (Nat.le_refl _) (Nat.le_refl _) ?_
        refine J_if_eq (tgt := 63) hT dX9_isWanted_50 (by decide) (fun q50 => ?_) (fun q50 => ?_)
        · refine J_iconst (v := 1) hT dX9_isWanted_63 rfl ?_
          refine J_goto (tgt := 68) hT dX9_isWanted_64 (by decide) ?_
          refine J_topil (y := zbi (wantP σ s (i + 1))) ?_ ?_
          · simp only [wantP_s, zbi_0, zbi_ne] at *
            simp_all [zbi]
          refine S_istore2 hT dX9_isWanted_68 rfl rfl ?_
          refine S_iinc3 hT dX9_isWanted_69 (nI_inc _) rfl ?_
          refine J_goto (tgt := 31) hT dX9_isWanted_72 (by decide) ?_
          exact ih (i + 1) (by omega)
        · refine J_aload_n (i := 0) hT dX9_isWanted_53 rfl rfl ?_
          refine R_getP hT fX9_83 rfl dX9_isWanted_54 (rk hS) (rp_state hS) ?_
          refine J_iload_n (i := 3) hT dX9_isWanted_57 rfl rfl ?_
          refine R_iald hT dX9_isWanted_58 (rk_state hS) (rl_state hS) (by first | exact ⟨rfl, by decide⟩ | exact zix_nI (by omega) (by decide) | assumption) ?_
          refine J_iconst (v := 2) hT dX9_isWanted_59 rfl ?_
          refine J_icmp_ne (tgt := 67) hT dX9_isWanted_60 (by decide) (fun q60 => ?_) (fun q60 => ?_)
          · refine J_iconst (v := 0) hT dX9_isWanted_67 rfl ?_
            refine J_topil (y := zbi (wantP σ s (i + 1))) ?_ ?_
            · simp only [wantP_s, zbi_0, zbi_ne] at *
              simp_all [zbi]
            refine S_istore2 hT dX9_isWanted_68 rfl rfl ?_
            refine S_iinc3 hT dX9_isWanted_69 (nI_inc _) rfl ?_
            refine J_goto (tgt := 31) hT dX9_isWanted_72 (by decide) ?_
            exact ih (i + 1) (by omega)
          · refine J_iconst (v := 1) hT dX9_isWanted_63 rfl ?_
            refine J_goto (tgt := 68) hT dX9_isWanted_64 (by decide) ?_
            refine J_topil (y := zbi (wantP σ s (i + 1))) ?_ ?_
            · simp only [wantP_s, zbi_0, zbi_ne] at *
              simp_all [zbi]
            refine S_istore2 hT dX9_isWanted_68 rfl rfl ?_
            refine S_iinc3 hT dX9_isWanted_69 (nI_inc _) rfl ?_
            refine J_goto (tgt := 31) hT dX9_isWanted_72 (by decide) ?_
            exact ih (i + 1) (by omega)
  rcases hc with hc | ⟨c, hc12, hc⟩
  · have e : wantP σ s 0 = false := by simp [wantP, hc]
    refine J_aload_n (i := 0) hT dX9_isWanted_0 rfl rfl ?_
    refine R_getP hT fX9_53 rfl dX9_isWanted_1 (rk hS) (rp_control hS) ?_
    refine J_iload_n (i := 1) hT dX9_isWanted_4 rfl rfl ?_
    refine R_iald hT dX9_isWanted_5 (rk_control hS) (rl_control hS) (by first | exact ⟨rfl, by decide⟩ | exact zix_nI (by omega) (by decide) | assumption) ?_
    refine J_topil (hc) ?_
    refine J_if_lt (tgt := 27) hT dX9_isWanted_6 (by decide) (fun _ => ?_) (fun q => absurd (by decide) q)
    refine J_iconst (v := 0) hT dX9_isWanted_27 rfl ?_
    refine J_topil (y := zbi (wantP σ s 0)) (by rw [e]; rfl) ?_
    refine S_istore2 hT dX9_isWanted_28 rfl rfl ?_
    refine J_iconst (v := 0) hT dX9_isWanted_29 rfl ?_
    refine S_istore3 hT dX9_isWanted_30 rfl rfl ?_
    exact loop 5 0 rfl
  · have e : wantP σ s 0 = decide (0 < σ 88 c) := by simp [wantP, hc, nI_tn hc12, nI_pos' (show c < 2 ^ 31 by omega)]
    refine J_aload_n (i := 0) hT dX9_isWanted_0 rfl rfl ?_
    refine R_getP hT fX9_53 rfl dX9_isWanted_1 (rk hS) (rp_control hS) ?_
    refine J_iload_n (i := 1) hT dX9_isWanted_4 rfl rfl ?_
    refine R_iald hT dX9_isWanted_5 (rk_control hS) (rl_control hS) (by first | exact ⟨rfl, by decide⟩ | exact zix_nI (by omega) (by decide) | assumption) ?_
    refine J_topil (hc) ?_
    refine J_if_lt (tgt := 27) hT dX9_isWanted_6 (by decide) (fun q => absurd q (nI_n0 hc12)) (fun _ => ?_)
    refine J_aload_n (i := 0) hT dX9_isWanted_9 rfl rfl ?_
    refine R_getP hT fX9_71 rfl dX9_isWanted_10 (rk hS) (rp_value hS) ?_
    refine J_aload_n (i := 0) hT dX9_isWanted_13 rfl rfl ?_
    refine R_getP hT fX9_53 rfl dX9_isWanted_14 (rk hS) (rp_control hS) ?_
    refine J_iload_n (i := 1) hT dX9_isWanted_17 rfl rfl ?_
    refine R_iald hT dX9_isWanted_18 (rk_control hS) (rl_control hS) (by first | exact ⟨rfl, by decide⟩ | exact zix_nI (by omega) (by decide) | assumption) ?_
    refine J_topil (hc) ?_
    refine R_iald hT dX9_isWanted_19 (rk_value hS) (rl_value hS) (by first | exact ⟨rfl, by decide⟩ | exact zix_nI (by omega) (by decide) | assumption) ?_
    refine J_if_le (tgt := 27) hT dX9_isWanted_20 (by decide) (fun q20 => ?_) (fun q20 => ?_)
    · refine J_iconst (v := 0) hT dX9_isWanted_27 rfl ?_
      refine J_topil (y := zbi (wantP σ s 0)) ?_ ?_
      · rw [e]
        simp only [ge_iff_le, gt_iff_lt, ← Int32.not_lt, Decidable.not_not] at q20
        simp [zbi, q20]
      refine S_istore2 hT dX9_isWanted_28 rfl rfl ?_
      refine J_iconst (v := 0) hT dX9_isWanted_29 rfl ?_
      refine S_istore3 hT dX9_isWanted_30 rfl rfl ?_
      exact loop 5 0 rfl
    · refine J_iconst (v := 1) hT dX9_isWanted_23 rfl ?_
      refine J_goto (tgt := 28) hT dX9_isWanted_24 (by decide) ?_
      refine J_topil (y := zbi (wantP σ s 0)) ?_ ?_
      · rw [e]
        simp only [ge_iff_le, gt_iff_lt, ← Int32.not_lt, Decidable.not_not] at q20
        simp [zbi, q20]
      refine S_istore2 hT dX9_isWanted_28 rfl rfl ?_
      refine J_iconst (v := 0) hT dX9_isWanted_29 rfl ?_
      refine S_istore3 hT dX9_isWanted_30 rfl rfl ?_
      exact loop 5 0 rfl

set_option maxRecDepth 100000 in
set_option maxHeartbeats 4000000 in
theorem c_X9_loadOf {l : Launch} {Z : zZ} (hZ : zSt l Z) {μ : zMem} {σ : Nat → Nat → Int32} {π : Nat → Nat → Option Nat} {g : Nat → Nat → Int64} (hS : zRef μ π) {s : Nat} (hs : s < 5) (hc : okC (σ 83 s)) : zCt l Z mX9_loadOf 0 0 0 [.ref 67, .int (nI s)] (zA4 μ σ π g) (fun r μ' => r = some (.int (loadN σ s)) ∧ μ' = zA4 μ σ π g) := by
  refine zCt_of hZ mpX9_loadOf (Nat.le_of_ble_eq_true rfl) (L := [some (.ref 67), some (.int (nI s)), none]) rfl (fun τ hY => ?_)
  have hT := hY.1
  have key : ∀ v : Int32, v = (if σ 83 s < 0 then σ 85 s else σ 88 (σ 83 s).toNatClampNeg) → zJ τ (zFn τ (fun r μ' => r = some (.int (loadN σ s)) ∧ μ' = zA4 μ σ π g) 0 0) 29 [some (.ref 67), some (.int (nI s)), none] [.int v] (zA4 μ σ π g) 0 0 := by
    intro v hv
    have e : loadN σ s = (if σ 92 s ≠ 2 ∨ (if v < σ 85 s then v else σ 85 s) < 0 then 0 else (if v < σ 85 s then v else σ 85 s)) := by rw [hv]; rfl
    rw [e]
    clear e hv
    refine S_istore2 hT dX9_loadOf_29 rfl rfl ?_
    refine J_iload_n (i := 2) hT dX9_loadOf_30 rfl rfl ?_
    refine J_aload_n (i := 0) hT dX9_loadOf_31 rfl rfl ?_
    refine R_getP hT fX9_62 rfl dX9_loadOf_32 (rk hS) (rp_demand hS) ?_
    refine J_iload_n (i := 1) hT dX9_loadOf_35 rfl rfl ?_
    refine R_iald hT dX9_loadOf_36 (rk_demand hS) (rl_demand hS) (by first | exact ⟨rfl, by decide⟩ | exact zix_nI (by omega) (by decide) | assumption) ?_
    refine J_icmp_ge (tgt := 44) hT dX9_loadOf_37 (by decide) (fun q37 => ?_) (fun q37 => ?_)
    · refine J_aload_n (i := 0) hT dX9_loadOf_44 rfl rfl ?_
      refine R_getP hT fX9_62 rfl dX9_loadOf_45 (rk hS) (rp_demand hS) ?_
      refine J_iload_n (i := 1) hT dX9_loadOf_48 rfl rfl ?_
      refine R_iald hT dX9_loadOf_49 (rk_demand hS) (rl_demand hS) (by first | exact ⟨rfl, by decide⟩ | exact zix_nI (by omega) (by decide) | assumption) ?_
      refine S_istore2 hT dX9_loadOf_50 rfl rfl ?_
      refine J_aload_n (i := 0) hT dX9_loadOf_51 rfl rfl ?_
      refine R_getP hT fX9_83 rfl dX9_loadOf_52 (rk hS) (rp_state hS) ?_
      refine J_iload_n (i := 1) hT dX9_loadOf_55 rfl rfl ?_
      refine R_iald hT dX9_loadOf_56 (rk_state hS) (rl_state hS) (by first | exact ⟨rfl, by decide⟩ | exact zix_nI (by omega) (by decide) | assumption) ?_
      refine J_iconst (v := 2) hT dX9_loadOf_57 rfl ?_
      refine J_icmp_ne (tgt := 65) hT dX9_loadOf_58 (by decide) (fun q58 => ?_) (fun q58 => ?_)
      · refine J_iconst (v := 0) hT dX9_loadOf_65 rfl ?_
        refine J_goto (tgt := 70) hT dX9_loadOf_66 (by decide) ?_
        exact J_iret hT dX9_loadOf_70 rfl rfl (⟨by congr 2; simp only [ge_iff_le, gt_iff_lt, ← Int32.not_lt, Decidable.not_not] at *; simp_all [-Int32.not_lt, -Int32.not_le], rfl⟩) (Nat.le_refl _) (Nat.le_refl _)
      · refine J_iload_n (i := 2) hT dX9_loadOf_61 rfl rfl ?_
        refine J_if_ge (tgt := 69) hT dX9_loadOf_62 (by decide) (fun q62 => ?_) (fun q62 => ?_)
        · refine J_iload_n (i := 2) hT dX9_loadOf_69 rfl rfl ?_
          exact J_iret hT dX9_loadOf_70 rfl rfl (⟨by congr 2; simp only [ge_iff_le, gt_iff_lt, ← Int32.not_lt, Decidable.not_not] at *; simp_all [-Int32.not_lt, -Int32.not_le], rfl⟩) (Nat.le_refl _) (Nat.le_refl _)
        · refine J_iconst (v := 0) hT dX9_loadOf_65 rfl ?_
          refine J_goto (tgt := 70) hT dX9_loadOf_66 (by decide) ?_
          exact J_iret hT dX9_loadOf_70 rfl rfl (⟨by congr 2; simp only [ge_iff_le, gt_iff_lt, ← Int32.not_lt, Decidable.not_not] at *; simp_all [-Int32.not_lt, -Int32.not_le], rfl⟩) (Nat.le_refl _) (Nat.le_refl _)
    · refine J_iload_n (i := 2) hT dX9_loadOf_40 rfl rfl ?_
      refine J_goto (tgt := 50) hT dX9_loadOf_41 (by decide) ?_
      refine S_istore2 hT dX9_loadOf_50 rfl rfl ?_
      refine J_aload_n (i := 0) hT dX9_loadOf_51 rfl rfl ?_
      refine R_getP hT fX9_83 rfl dX9_loadOf_52 (rk hS) (rp_state hS) ?_
      refine J_iload_n (i := 1) hT dX9_loadOf_55 rfl rfl ?_
      refine R_iald hT dX9_loadOf_56 (rk_state hS) (rl_state hS) (by first | exact ⟨rfl, by decide⟩ | exact zix_nI (by omega) (by decide) | assumption) ?_
      refine J_iconst (v := 2) hT dX9_loadOf_57 rfl ?_
      refine J_icmp_ne (tgt := 65) hT dX9_loadOf_58 (by decide) (fun q58 => ?_) (fun q58 => ?_)
      · refine J_iconst (v := 0) hT dX9_loadOf_65 rfl ?_
        refine J_goto (tgt := 70) hT dX9_loadOf_66 (by decide) ?_
        exact J_iret hT dX9_loadOf_70 rfl rfl (⟨by congr 2; simp only [ge_iff_le, gt_iff_lt, ← Int32.not_lt, Decidable.not_not] at *; simp_all [-Int32.not_lt, -Int32.not_le], rfl⟩) (Nat.le_refl _) (Nat.le_refl _)
      · refine J_iload_n (i := 2) hT dX9_loadOf_61 rfl rfl ?_
        refine J_if_ge (tgt := 69) hT dX9_loadOf_62 (by decide) (fun q62 => ?_) (fun q62 => ?_)
        · refine J_iload_n (i := 2) hT dX9_loadOf_69 rfl rfl ?_
          exact J_iret hT dX9_loadOf_70 rfl rfl (⟨by congr 2; simp only [ge_iff_le, gt_iff_lt, ← Int32.not_lt, Decidable.not_not] at *; simp_all [-Int32.not_lt, -Int32.not_le], rfl⟩) (Nat.le_refl _) (Nat.le_refl _)
        · refine J_iconst (v := 0) hT dX9_loadOf_65 rfl ?_
          refine J_goto (tgt := 70) hT dX9_loadOf_66 (by decide) ?_
          exact J_iret hT dX9_loadOf_70 rfl rfl (⟨by congr 2; simp only [ge_iff_le, gt_iff_lt, ← Int32.not_lt, Decidable.not_not] at *; simp_all [-Int32.not_lt, -Int32.not_le], rfl⟩) (Nat.le_refl _) (Nat.le_refl _)
  rcases hc with hc | ⟨c, hc12, hc⟩
  · refine J_aload_n (i := 0) hT dX9_loadOf_0 rfl rfl ?_
    refine R_getP hT fX9_56 rfl dX9_loadOf_1 (rk hS) (rp_limit hS) ?_
    refine J_iload_n (i := 1) hT dX9_loadOf_4 rfl rfl ?_
    refine R_iald hT dX9_loadOf_5 (rk_limit hS) (rl_limit hS) (by first | exact ⟨rfl, by decide⟩ | exact zix_nI (by omega) (by decide) | assumption) ?_
    refine J_topil (hc) ?_
    refine J_if_ge (tgt := 18) hT dX9_loadOf_6 (by decide) (fun q => absurd q (by decide)) (fun _ => ?_)
    refine J_aload_n (i := 0) hT dX9_loadOf_9 rfl rfl ?_
    refine R_getP hT fX9_62 rfl dX9_loadOf_10 (rk hS) (rp_demand hS) ?_
    refine J_iload_n (i := 1) hT dX9_loadOf_13 rfl rfl ?_
    refine R_iald hT dX9_loadOf_14 (rk_demand hS) (rl_demand hS) (by first | exact ⟨rfl, by decide⟩ | exact zix_nI (by omega) (by decide) | assumption) ?_
    refine J_goto (tgt := 29) hT dX9_loadOf_15 (by decide) ?_
    exact key _ (by rw [hc]; rfl)
  · refine J_aload_n (i := 0) hT dX9_loadOf_0 rfl rfl ?_
    refine R_getP hT fX9_56 rfl dX9_loadOf_1 (rk hS) (rp_limit hS) ?_
    refine J_iload_n (i := 1) hT dX9_loadOf_4 rfl rfl ?_
    refine R_iald hT dX9_loadOf_5 (rk_limit hS) (rl_limit hS) (by first | exact ⟨rfl, by decide⟩ | exact zix_nI (by omega) (by decide) | assumption) ?_
    refine J_topil (hc) ?_
    refine J_if_ge (tgt := 18) hT dX9_loadOf_6 (by decide) (fun _ => ?_) (fun q => absurd (nI_pos' (by omega)) q)
    refine J_aload_n (i := 0) hT dX9_loadOf_18 rfl rfl ?_
    refine R_getP hT fX9_71 rfl dX9_loadOf_19 (rk hS) (rp_value hS) ?_
    refine J_aload_n (i := 0) hT dX9_loadOf_22 rfl rfl ?_
    refine R_getP hT fX9_56 rfl dX9_loadOf_23 (rk hS) (rp_limit hS) ?_
    refine J_iload_n (i := 1) hT dX9_loadOf_26 rfl rfl ?_
    refine R_iald hT dX9_loadOf_27 (rk_limit hS) (rl_limit hS) (by first | exact ⟨rfl, by decide⟩ | exact zix_nI (by omega) (by decide) | assumption) ?_
    refine J_topil (hc) ?_
    refine R_iald hT dX9_loadOf_28 (rk_value hS) (rl_value hS) (by first | exact ⟨rfl, by decide⟩ | exact zix_nI (by omega) (by decide) | assumption) ?_
    exact key _ (by rw [hc, if_neg (nI_n0 hc12), nI_tn hc12])
