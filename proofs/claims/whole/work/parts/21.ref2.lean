
/-! ===== what the reference does, over its numbers ===== -/
def soilP (σ : Nat → Nat → Int32) (rk w n : Nat) : Nat → Nat → Int32 := fun b j => if b = 89 ∧ j < n then zbi (decide (σ 89 j ≠ 0) || (decide (σ 80 j = 0) && bt (σ rk j) w)) else σ b j
def soilF (σ : Nat → Nat → Int32) (rk w : Nat) : Nat → Nat → Int32 := soilP σ rk w 12
theorem soilP_0 (σ : Nat → Nat → Int32) (rk w : Nat) : soilP σ rk w 0 = σ := by funext b j; simp [soilP]
theorem soilP_ne (σ : Nat → Nat → Int32) (rk w n : Nat) {b : Nat} (h : b ≠ 89) (j : Nat) : soilP σ rk w n b j = σ b j := by simp [soilP, h]
theorem soilP_ge (σ : Nat → Nat → Int32) (rk w n : Nat) {j : Nat} (h : n ≤ j) : soilP σ rk w n 89 j = σ 89 j := by simp [soilP, Nat.not_lt.mpr h]
theorem soilP_s (σ : Nat → Nat → Int32) (rk w i : Nat) {v : Int32} (h : v = zbi (decide (σ 89 i ≠ 0) || (decide (σ 80 i = 0) && bt (σ rk i) w))) : zu (soilP σ rk w i) 89 i v = soilP σ rk w (i + 1) := by
  funext b j
  simp only [zu, soilP]
  by_cases h1 : b = 89
  · subst h1
    by_cases h2 : j = i
    · subst h2; simp [h]
    · have h3 : (j < i + 1) ↔ j < i := by omega
      simp [h2, h3]
  · simp [h1]
theorem soilF_ne (σ : Nat → Nat → Int32) (rk w : Nat) {b : Nat} (h : b ≠ 89) (j : Nat) : soilF σ rk w b j = σ b j := soilP_ne σ rk w 12 h j
theorem soilF_at (σ : Nat → Nat → Int32) (rk w : Nat) {j : Nat} (h : j < 12) : soilF σ rk w 89 j = zbi (decide (σ 89 j ≠ 0) || (decide (σ 80 j = 0) && bt (σ rk j) w)) := by simp [soilF, soilP, h]
def becomeF (σ : Nat → Nat → Int32) (c : Nat) (v : Int32) : Nat → Nat → Int32 := if σ 88 c = v then σ else soilF (zu σ 88 c v) 76 c
def tellF (σ : Nat → Nat → Int32) (s : Nat) (v : Int32) : Nat → Nat → Int32 := if σ 96 s = v then σ else soilF (zu σ 96 s v) 78 s
/-- the dirty cell of least depth, the lower one of two, among the first n -/
def ndP (σ : Nat → Nat → Int32) : Nat → Option Nat
  | 0 => none
  | n + 1 => match ndP σ n with
    | none => if σ 89 n ≠ 0 then some n else none
    | some f => if σ 89 n ≠ 0 ∧ σ 79 n < σ 79 f then some n else some f
def oI (o : Option Nat) : Int32 := match o with
  | none => -1
  | some n => nI n
theorem ndP_lt (σ : Nat → Nat → Int32) : ∀ (n f : Nat), ndP σ n = some f → f < n := by
  intro n
  induction n with
  | zero => intro f h; cases h
  | succ n ih =>
    intro f h
    unfold ndP at h
    split at h
    · split at h
      · cases h; omega
      · cases h
    · rename_i f' hf'
      have := ih f' hf'
      split at h
      · cases h; omega
      · cases h; omega
/-- wanted, as far as the first n services say -/
def wantP (σ : Nat → Nat → Int32) (s n : Nat) : Bool := decide (0 ≤ σ 82 s) && (decide (0 < σ 88 (σ 82 s).toNatClampNeg) && (List.range n).all (fun k => !bt (σ 84 s) k || decide (σ 92 k = 2)))
theorem wantP_s (σ : Nat → Nat → Int32) (s n : Nat) : wantP σ s (n + 1) = (wantP σ s n && (!bt (σ 84 s) n || decide (σ 92 n = 2))) := by
  simp [wantP, List.range_succ, Bool.and_assoc]
def loadN (σ : Nat → Nat → Int32) (s : Nat) : Int32 :=
  let most := if σ 83 s < 0 then σ 85 s else σ 88 (σ 83 s).toNatClampNeg
  let most2 := if most < σ 85 s then most else σ 85 s
  if σ 92 s ≠ 2 ∨ most2 < 0 then 0 else most2

set_option maxRecDepth 100000 in
set_option maxHeartbeats 4000000 in
theorem c_X9_makes {l : Launch} {Z : zZ} (hZ : zSt l Z) {μ : zMem} {σ : Nat → Nat → Int32} {π : Nat → Nat → Option Nat} {g : Nat → Nat → Int64} (hS : zRef μ π) {n : Nat} (hn : n < 30) (hm : σ 67 3 = nI n) {w : Int32} : zCt l Z mX9_makes 0 0 0 [.ref 67, .int w] (zA4 μ σ π g) (fun r μ' => r = none ∧ μ' = zA4 μ (zu (zu σ 69 n w) 67 3 (nI (n + 1))) π g) := by
  refine zCt_of hZ mpX9_makes (Nat.le_of_ble_eq_true rfl) (L := [some (.ref 67), some (.int w)]) rfl (fun τ hY => ?_)
  have hT := hY.1
  refine J_aload_n (i := 0) hT dX9_makes_0 rfl rfl ?_
  refine R_getP hT fX9_13 rfl dX9_makes_1 (rk hS) (rp_made hS) ?_
  refine J_aload_n (i := 0) hT dX9_makes_4 rfl rfl ?_
  refine R_getI hT fX9_154 rfl dX9_makes_5 (rk hS) ?_
  refine J_topil (hm) ?_
  refine J_iload_n (i := 1) hT dX9_makes_8 rfl rfl ?_
  refine R_iast hT dX9_makes_9 (rk_made hS) (rl_made hS) (by first | exact ⟨rfl, by decide⟩ | exact zix_nI (by omega) (by decide) | assumption) ?_
  refine J_aload_n (i := 0) hT dX9_makes_10 rfl rfl ?_
  refine J_dup hT dX9_makes_11 rfl ?_
  refine R_getI hT fX9_154 rfl dX9_makes_12 (rk hS) ?_
  refine J_iconst (v := 1) hT dX9_makes_15 rfl ?_
  refine J_iadd hT dX9_makes_16 ?_
  refine R_putI hT fX9_154 rfl rfl dX9_makes_17 (rk hS) ?_
  exact J_vret hT dX9_makes_20 rfl (⟨rfl, by simp only [zu]; simp [hm, nI_1]⟩) (Nat.le_refl _) (Nat.le_refl _)

set_option maxRecDepth 100000 in
set_option maxHeartbeats 4000000 in
theorem c_X9_opensOne {l : Launch} {Z : zZ} (hZ : zSt l Z) {μ : zMem} {σ : Nat → Nat → Int32} {π : Nat → Nat → Option Nat} {g : Nat → Nat → Int64} (hS : zRef μ π) {n : Nat} (hn : n < 62) (hm : σ 67 5 = nI n) {w : Int32} : zCt l Z mX9_opensOne 0 0 0 [.ref 67, .int w] (zA4 μ σ π g) (fun r μ' => r = none ∧ μ' = zA4 μ (zu (zu σ 70 n w) 67 5 (nI (n + 1))) π g) := by
  refine zCt_of hZ mpX9_opensOne (Nat.le_of_ble_eq_true rfl) (L := [some (.ref 67), some (.int w)]) rfl (fun τ hY => ?_)
  have hT := hY.1
  refine J_aload_n (i := 0) hT dX9_opensOne_0 rfl rfl ?_
  refine R_getP hT fX9_16 rfl dX9_opensOne_1 (rk hS) (rp_open hS) ?_
  refine J_aload_n (i := 0) hT dX9_opensOne_4 rfl rfl ?_
  refine R_getI hT fX9_157 rfl dX9_opensOne_5 (rk hS) ?_
  refine J_topil (hm) ?_
  refine J_iload_n (i := 1) hT dX9_opensOne_8 rfl rfl ?_
  refine R_iast hT dX9_opensOne_9 (rk_open hS) (rl_open hS) (by first | exact ⟨rfl, by decide⟩ | exact zix_nI (by omega) (by decide) | assumption) ?_
  refine J_aload_n (i := 0) hT dX9_opensOne_10 rfl rfl ?_
  refine J_dup hT dX9_opensOne_11 rfl ?_
  refine R_getI hT fX9_157 rfl dX9_opensOne_12 (rk hS) ?_
  refine J_iconst (v := 1) hT dX9_opensOne_15 rfl ?_
  refine J_iadd hT dX9_opensOne_16 ?_
  refine R_putI hT fX9_157 rfl rfl dX9_opensOne_17 (rk hS) ?_
  exact J_vret hT dX9_opensOne_20 rfl (⟨rfl, by simp only [zu]; simp [hm, nI_1]⟩) (Nat.le_refl _) (Nat.le_refl _)

set_option maxRecDepth 100000 in
set_option maxHeartbeats 4000000 in
theorem c_X9_soils {l : Launch} {Z : zZ} (hZ : zSt l Z) {μ : zMem} {σ : Nat → Nat → Int32} {π : Nat → Nat → Option Nat} {g : Nat → Nat → Int64} (hS : zRef μ π) {ra w : Nat} (hw : w < 32) (hk : zK μ ra = 0) (hl : zL μ ra = 12) (hr : ra ≠ 89) : zCt l Z mX9_soils 1 0 0 [.ref 67, .ref ra, .int (nI w)] (zA4 μ σ π g) (fun r μ' => r = none ∧ μ' = zA4 μ (soilF σ ra w) π g) := by
  refine zCt_of hZ mpX9_soils (Nat.le_of_ble_eq_true rfl) (L := [some (.ref 67), some (.ref ra), some (.int (nI w)), none]) rfl (fun τ hY => ?_)
  have hT := hY.1
  have loop : ∀ n i, i + n = 12 → zJ τ (zFn τ (fun r μ' => r = none ∧ μ' = zA4 μ (soilF σ ra w) π g) 0 0) 2 [some (.ref 67), some (.ref ra), some (.int (nI w)), some (.int (nI i))] [] (zA4 μ (soilP σ ra w i) π g) 0 0 := by
    intro n
    induction n with
    | zero =>
      intro i hi
      have : i = 12 := by omega
      subst this
      refine J_iload_n (i := 3) hT dX9_soils_2 rfl rfl ?_
      refine J_bipush (v := 12) hT dX9_soils_3 rfl ?_
      refine J_icmp_ge (tgt := 53) hT dX9_soils_5 (by decide) (fun _ => ?_) (fun q => absurd (nI_le (a := 12) (b := 12) (by decide) (by decide)) q)
      exact J_vret hT dX9_soils_53 rfl (⟨rfl, rfl⟩) (Nat.le_refl _) (Nat.le_refl _)
    | succ n ih =>
      intro i hi
      refine J_iload_n (i := 3) hT dX9_soils_2 rfl rfl ?_
      refine J_bipush (v := 12) hT dX9_soils_3 rfl ?_
      refine J_icmp_ge (tgt := 53) hT dX9_soils_5 (by decide) (fun q => absurd q (Int32.not_le.mpr (nI_lt (a := i) (b := 12) (by omega) (by decide)))) (fun _ => ?_)
      refine J_aload_n (i := 0) hT dX9_soils_8 rfl rfl ?_
      refine R_getP hT fX9_74 rfl dX9_soils_9 (rk hS) (rp_isDirty hS) ?_
      refine J_iload_n (i := 3) hT dX9_soils_12 rfl rfl ?_
      refine J_aload_n (i := 0) hT dX9_soils_13 rfl rfl ?_
      refine R_getP hT fX9_74 rfl dX9_soils_14 (rk hS) (rp_isDirty hS) ?_
      refine J_iload_n (i := 3) hT dX9_soils_17 rfl rfl ?_
      refine R_zald hT dX9_soils_18 (rk_isDirty hS) (rl_isDirty hS) (by first | exact ⟨rfl, by decide⟩ | exact zix_nI (by omega) (by decide) | assumption) ?_
      refine J_topil (soilP_ge σ ra w i (Nat.le_refl i)) ?_
      refine J_if_ne (tgt := 41) hT dX9_soils_19 (by decide) (fun q19 => ?_) (fun q19 => ?_)
      · refine J_iconst (v := 1) hT dX9_soils_41 rfl ?_
        refine J_goto (tgt := 46) hT dX9_soils_42 (by decide) ?_
        refine R_zast hT dX9_soils_46 (rk_isDirty hS) (rl_isDirty hS) (by first | exact ⟨rfl, by decide⟩ | exact zix_nI (by omega) (by decide) | assumption) (by decide) ?_
        refine S_iinc3 hT dX9_soils_47 (nI_inc _) rfl ?_
        refine J_goto (tgt := 2) hT dX9_soils_50 (by decide) ?_
        refine J_mu (congrArg (fun s => zA4 μ s π g) (soilP_s σ ra w i ?_)) (ih (i + 1) (by omega))
        simp_all [zbi]
      · refine J_aload_n (i := 0) hT dX9_soils_22 rfl rfl ?_
        refine R_getP hT fX9_47 rfl dX9_soils_23 (rk hS) (rp_isHeld hS) ?_
        refine J_iload_n (i := 3) hT dX9_soils_26 rfl rfl ?_
        refine R_zald hT dX9_soils_27 (rk_isHeld hS) (rl_isHeld hS) (by first | exact ⟨rfl, by decide⟩ | exact zix_nI (by omega) (by decide) | assumption) ?_
        refine J_topil (soilP_ne σ ra w i (by decide) i) ?_
        refine J_if_ne (tgt := 45) hT dX9_soils_28 (by decide) (fun q28 => ?_) (fun q28 => ?_)
        · refine J_iconst (v := 0) hT dX9_soils_45 rfl ?_
          refine R_zast hT dX9_soils_46 (rk_isDirty hS) (rl_isDirty hS) (by first | exact ⟨rfl, by decide⟩ | exact zix_nI (by omega) (by decide) | assumption) (by decide) ?_
          refine S_iinc3 hT dX9_soils_47 (nI_inc _) rfl ?_
          refine J_goto (tgt := 2) hT dX9_soils_50 (by decide) ?_
          refine J_mu (congrArg (fun s => zA4 μ s π g) (soilP_s σ ra w i ?_)) (ih (i + 1) (by omega))
          simp_all [zbi]
        · refine J_aload_n (i := 1) hT dX9_soils_31 rfl rfl ?_
          refine J_iload_n (i := 3) hT dX9_soils_32 rfl rfl ?_
          refine R_iald hT dX9_soils_33 hk hl (by first | exact ⟨rfl, by decide⟩ | exact zix_nI (by omega) (by decide) | assumption) ?_
          refine J_topil (soilP_ne σ ra w i hr i) ?_
          refine J_iload_n (i := 2) hT dX9_soils_34 rfl rfl ?_
          refine R_callS1 hY dX9_soils_35 mfX9_has mtX9_has kX9_197 (c_X9_has hZ hw) rfl (by decide) rfl rfl (Nat.le_of_ble_eq_true rfl) (Nat.le_refl _) (Nat.le_refl _) ?_
          refine J_if_eq (tgt := 45) hT dX9_soils_38 (by decide) (fun q38 => ?_) (fun q38 => ?_)
          · refine J_iconst (v := 0) hT dX9_soils_45 rfl ?_
            refine R_zast hT dX9_soils_46 (rk_isDirty hS) (rl_isDirty hS) (by first | exact ⟨rfl, by decide⟩ | exact zix_nI (by omega) (by decide) | assumption) (by decide) ?_
            refine S_iinc3 hT dX9_soils_47 (nI_inc _) rfl ?_
            refine J_goto (tgt := 2) hT dX9_soils_50 (by decide) ?_
            refine J_mu (congrArg (fun s => zA4 μ s π g) (soilP_s σ ra w i ?_)) (ih (i + 1) (by omega))
            simp_all [zbi]
          · refine J_iconst (v := 1) hT dX9_soils_41 rfl ?_
            refine J_goto (tgt := 46) hT dX9_soils_42 (by decide) ?_
            refine R_zast hT dX9_soils_46 (rk_isDirty hS) (rl_isDirty hS) (by first | exact ⟨rfl, by decide⟩ | exact zix_nI (by omega) (by decide) | assumption) (by decide) ?_
            refine S_iinc3 hT dX9_soils_47 (nI_inc _) rfl ?_
            refine J_goto (tgt := 2) hT dX9_soils_50 (by decide) ?_
            refine J_mu (congrArg (fun s => zA4 μ s π g) (soilP_s σ ra w i ?_)) (ih (i + 1) (by omega))
            simp_all [zbi]
  refine J_mu (congrArg (fun s => zA4 μ s π g) (soilP_0 σ ra w).symm) ?_
  refine J_iconst (v := 0) hT dX9_soils_0 rfl ?_
  refine S_istore3 hT dX9_soils_1 rfl rfl ?_
  exact loop 12 0 rfl
