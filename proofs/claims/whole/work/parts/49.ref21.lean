
def txN (σ : Nat → Nat → Int32) (k : Nat) : Nat := (σ 68 k).toNatClampNeg
def nmBad (σ : Nat → Nat → Int32) (L p : Nat) : Bool := decide (p + 1 = L) || (!figB (σ 68 (p + 1)) || (decide (σ 68 p ≠ 99) && decide (53 ≤ txN σ (p + 1))))
def nmTwo (σ : Nat → Nat → Int32) (L p : Nat) : Bool := decide (σ 68 p = 99) && (decide (txN σ (p + 1) = 49) && (decide (p + 2 < L) && (decide (σ 68 (p + 2) = 48) || decide (σ 68 (p + 2) = 49))))
def nmBase (s : Int32) : Nat := if s = 99 then 20000 else if s = 114 then 21000 else 22000
def nmV (σ : Nat → Nat → Int32) (L p : Nat) : Nat := if nmTwo σ L p = true then 10 + (txN σ (p + 2) - 48) else txN σ (p + 1) - 48
def nmP (σ : Nat → Nat → Int32) (L p : Nat) : Nat := if nmTwo σ L p = true then p + 3 else p + 2
theorem figB_tx {σ : Nat → Nat → Int32} {k : Nat} (h : figB (σ 68 k) = true) : 48 ≤ txN σ k ∧ txN σ k ≤ 57 ∧ σ 68 k = nI (txN σ k) := by
  obtain ⟨t, h1, h2, e⟩ := figB_nI h
  have : txN σ k = t := by unfold txN; rw [e]; exact nI_clamp (by omega)
  rw [this]
  exact ⟨h1, h2, e⟩

theorem sub48 {σ : Nat → Nat → Int32} {k : Nat} (h : figB (σ 68 k) = true) : σ 68 k - 48 = nI (txN σ k - 48) := by
  obtain ⟨h1, h2, e⟩ := figB_tx h
  obtain ⟨t, ht⟩ : ∃ t, t = txN σ k := ⟨_, rfl⟩
  rw [← ht] at h1 e ⊢
  rw [e]
  exact nI_sub (a := t) (b := 48) h1

set_option maxRecDepth 100000 in
set_option maxHeartbeats 4000000 in
theorem c_X9_takesName_no {l : Launch} {Z : zZ} (hZ : zSt l Z) {μ : zMem} {σ : Nat → Nat → Int32} {π : Nat → Nat → Option Nat} {g : Nat → Nat → Int64} (hS : zRef μ π) {p L n : Nat} (hL : σ 67 1 = nI L) (hL30 : L ≤ 30) (hp : p < L) (hn : n < 30) (hm : σ 67 3 = nI n) (hb : nmBad σ L p = true) : zCt l Z mX9_takesName 1 0 0 [.ref 67, .int (nI p)] (zA4 μ σ π g) (fun r μ' => r = some (.int (nI (100 + (p + 1)))) ∧ μ' = zA4 μ σ π g) := by
  refine zCt_of hZ mpX9_takesName (Nat.le_of_ble_eq_true rfl) (L := [some (.ref 67), some (.int (nI p)), none, none, none]) rfl (fun τ hY => ?_)
  have hT := hY.1
  by_cases hq : p + 1 = L
  · refine J_aload_n (i := 0) hT dX9_takesName_0 rfl rfl ?_
    refine R_getP hT fX9_7 rfl dX9_takesName_1 (rk hS) (rp_text hS) ?_
    refine J_iload_n (i := 1) hT dX9_takesName_4 rfl rfl ?_
    refine R_iald hT dX9_takesName_5 (rk_text hS) (rl_text hS) (by first | exact ⟨rfl, by decide⟩ | exact zix_nI (by omega) (by decide) | assumption) ?_
    refine S_istore2 hT dX9_takesName_6 rfl rfl ?_
    refine J_iload_n (i := 1) hT dX9_takesName_7 rfl rfl ?_
    refine J_iconst (v := 1) hT dX9_takesName_8 rfl ?_
    refine J_iadd hT dX9_takesName_9 ?_
    refine J_topil ((nI_1 p)) ?_
    refine S_istore3 hT dX9_takesName_10 rfl rfl ?_
    refine J_iload_n (i := 3) hT dX9_takesName_11 rfl rfl ?_
    refine J_aload_n (i := 0) hT dX9_takesName_12 rfl rfl ?_
    refine R_getI hT fX9_147 rfl dX9_takesName_13 (rk hS) ?_
    refine J_topil (hL) ?_
    refine J_icmp_ne (tgt := 24) hT dX9_takesName_16 (by decide) (fun q => absurd ((congrArg nI hq)) q) (fun _ => ?_)
    refine J_bipush (v := 100) hT dX9_takesName_19 rfl ?_
    refine J_iload_n (i := 3) hT dX9_takesName_21 rfl rfl ?_
    refine J_iadd hT dX9_takesName_22 ?_
    refine J_topil ((nI_add 100 (p + 1))) ?_
    exact J_iret hT dX9_takesName_23 rfl rfl (⟨rfl, rfl⟩) (Nat.le_refl _) (Nat.le_refl _)
  · cases hf : figB (σ 68 (p + 1)) with
    | false =>
      refine J_aload_n (i := 0) hT dX9_takesName_0 rfl rfl ?_
      refine R_getP hT fX9_7 rfl dX9_takesName_1 (rk hS) (rp_text hS) ?_
      refine J_iload_n (i := 1) hT dX9_takesName_4 rfl rfl ?_
      refine R_iald hT dX9_takesName_5 (rk_text hS) (rl_text hS) (by first | exact ⟨rfl, by decide⟩ | exact zix_nI (by omega) (by decide) | assumption) ?_
      refine S_istore2 hT dX9_takesName_6 rfl rfl ?_
      refine J_iload_n (i := 1) hT dX9_takesName_7 rfl rfl ?_
      refine J_iconst (v := 1) hT dX9_takesName_8 rfl ?_
      refine J_iadd hT dX9_takesName_9 ?_
      refine J_topil ((nI_1 p)) ?_
      refine S_istore3 hT dX9_takesName_10 rfl rfl ?_
      refine J_iload_n (i := 3) hT dX9_takesName_11 rfl rfl ?_
      refine J_aload_n (i := 0) hT dX9_takesName_12 rfl rfl ?_
      refine R_getI hT fX9_147 rfl dX9_takesName_13 (rk hS) ?_
      refine J_topil (hL) ?_
      refine J_icmp_ne (tgt := 24) hT dX9_takesName_16 (by decide) (fun _ => ?_) (fun q => absurd q (fun q => hq ((nI_eq (by omega) (by omega)).mp q)))
      refine J_aload_n (i := 0) hT dX9_takesName_24 rfl rfl ?_
      refine R_getP hT fX9_7 rfl dX9_takesName_25 (rk hS) (rp_text hS) ?_
      refine J_iload_n (i := 3) hT dX9_takesName_28 rfl rfl ?_
      refine R_iald hT dX9_takesName_29 (rk_text hS) (rl_text hS) (by first | exact ⟨rfl, by decide⟩ | exact zix_nI (by omega) (by decide) | assumption) ?_
      refine J_bipush (v := 48) hT dX9_takesName_30 rfl ?_
      refine J_isub hT dX9_takesName_32 ?_
      refine S_istore4 hT dX9_takesName_33 rfl ?_
      refine J_aload_n (i := 0) hT dX9_takesName_35 rfl rfl ?_
      refine R_getP hT fX9_7 rfl dX9_takesName_36 (rk hS) (rp_text hS) ?_
      refine J_iload_n (i := 3) hT dX9_takesName_39 rfl rfl ?_
      refine R_iald hT dX9_takesName_40 (rk_text hS) (rl_text hS) (by first | exact ⟨rfl, by decide⟩ | exact zix_nI (by omega) (by decide) | assumption) ?_
      refine R_callS1 hY dX9_takesName_41 mfX9_isFigure mtX9_isFigure kX9_133 (c_X9_isFigure hZ) rfl (by decide) rfl rfl (Nat.le_of_ble_eq_true rfl) (Nat.le_refl _) (Nat.le_refl _) ?_
      refine J_topil (zbF hf) ?_
      refine J_if_eq (tgt := 59) hT dX9_takesName_44 (by decide) (fun _ => ?_) (fun q => absurd (rfl) q)
      refine J_bipush (v := 100) hT dX9_takesName_59 rfl ?_
      refine J_iload_n (i := 3) hT dX9_takesName_61 rfl rfl ?_
      refine J_iadd hT dX9_takesName_62 ?_
      refine J_topil ((nI_add 100 (p + 1))) ?_
      exact J_iret hT dX9_takesName_63 rfl rfl (⟨rfl, rfl⟩) (Nat.le_refl _) (Nat.le_refl _)
    | true =>
      obtain ⟨f1, f2, f3⟩ := figB_tx hf
      have h9 : σ 68 p ≠ 99 ∧ 53 ≤ txN σ (p + 1) := by
        simp only [nmBad, hf, hq, decide_false, Bool.false_or, Bool.not_true, Bool.and_eq_true, decide_eq_true_eq] at hb
        exact hb
      refine J_aload_n (i := 0) hT dX9_takesName_0 rfl rfl ?_
      refine R_getP hT fX9_7 rfl dX9_takesName_1 (rk hS) (rp_text hS) ?_
      refine J_iload_n (i := 1) hT dX9_takesName_4 rfl rfl ?_
      refine R_iald hT dX9_takesName_5 (rk_text hS) (rl_text hS) (by first | exact ⟨rfl, by decide⟩ | exact zix_nI (by omega) (by decide) | assumption) ?_
      refine S_istore2 hT dX9_takesName_6 rfl rfl ?_
      refine J_iload_n (i := 1) hT dX9_takesName_7 rfl rfl ?_
      refine J_iconst (v := 1) hT dX9_takesName_8 rfl ?_
      refine J_iadd hT dX9_takesName_9 ?_
      refine J_topil ((nI_1 p)) ?_
      refine S_istore3 hT dX9_takesName_10 rfl rfl ?_
      refine J_iload_n (i := 3) hT dX9_takesName_11 rfl rfl ?_
      refine J_aload_n (i := 0) hT dX9_takesName_12 rfl rfl ?_
      refine R_getI hT fX9_147 rfl dX9_takesName_13 (rk hS) ?_
      refine J_topil (hL) ?_
      refine J_icmp_ne (tgt := 24) hT dX9_takesName_16 (by decide) (fun _ => ?_) (fun q => absurd q (fun q => hq ((nI_eq (by omega) (by omega)).mp q)))
      refine J_aload_n (i := 0) hT dX9_takesName_24 rfl rfl ?_
      refine R_getP hT fX9_7 rfl dX9_takesName_25 (rk hS) (rp_text hS) ?_
      refine J_iload_n (i := 3) hT dX9_takesName_28 rfl rfl ?_
      refine R_iald hT dX9_takesName_29 (rk_text hS) (rl_text hS) (by first | exact ⟨rfl, by decide⟩ | exact zix_nI (by omega) (by decide) | assumption) ?_
      refine J_bipush (v := 48) hT dX9_takesName_30 rfl ?_
      refine J_isub hT dX9_takesName_32 ?_
      refine J_topil ((sub48 hf)) ?_
      refine S_istore4 hT dX9_takesName_33 rfl ?_
      refine J_aload_n (i := 0) hT dX9_takesName_35 rfl rfl ?_
      refine R_getP hT fX9_7 rfl dX9_takesName_36 (rk hS) (rp_text hS) ?_
      refine J_iload_n (i := 3) hT dX9_takesName_39 rfl rfl ?_
      refine R_iald hT dX9_takesName_40 (rk_text hS) (rl_text hS) (by first | exact ⟨rfl, by decide⟩ | exact zix_nI (by omega) (by decide) | assumption) ?_
      refine R_callS1 hY dX9_takesName_41 mfX9_isFigure mtX9_isFigure kX9_133 (c_X9_isFigure hZ) rfl (by decide) rfl rfl (Nat.le_of_ble_eq_true rfl) (Nat.le_refl _) (Nat.le_refl _) ?_
      refine J_topil (zbT hf) ?_
      refine J_if_eq (tgt := 59) hT dX9_takesName_44 (by decide) (fun q => absurd q (by decide)) (fun _ => ?_)
      refine J_iload_n (i := 2) hT dX9_takesName_47 rfl rfl ?_
      refine J_bipush (v := 99) hT dX9_takesName_48 rfl ?_
      refine J_icmp_eq (tgt := 64) hT dX9_takesName_50 (by decide) (fun q => absurd q (h9.1)) (fun _ => ?_)
      refine J_iload (i := 4) hT dX9_takesName_53 rfl ?_
      refine J_iconst (v := 5) hT dX9_takesName_55 rfl ?_
      refine J_icmp_lt (tgt := 64) hT dX9_takesName_56 (by decide) (fun q => absurd q (Int32.not_lt.mpr (nI_le (a := 5) (b := txN σ (p + 1) - 48) (by omega) (by omega)))) (fun _ => ?_)
      refine J_bipush (v := 100) hT dX9_takesName_59 rfl ?_
      refine J_iload_n (i := 3) hT dX9_takesName_61 rfl rfl ?_
      refine J_iadd hT dX9_takesName_62 ?_
      refine J_topil ((nI_add 100 (p + 1))) ?_
      exact J_iret hT dX9_takesName_63 rfl rfl (⟨rfl, rfl⟩) (Nat.le_refl _) (Nat.le_refl _)

set_option maxRecDepth 100000 in
set_option maxHeartbeats 4000000 in
theorem c_X9_takesName_ok {l : Launch} {Z : zZ} (hZ : zSt l Z) {μ : zMem} {σ : Nat → Nat → Int32} {π : Nat → Nat → Option Nat} {g : Nat → Nat → Int64} (hS : zRef μ π) {p L n : Nat} (hL : σ 67 1 = nI L) (hL30 : L ≤ 30) (hp : p < L) (hn : n < 30) (hm : σ 67 3 = nI n) (hb : nmBad σ L p = false) : zCt l Z mX9_takesName 1 0 0 [.ref 67, .int (nI p)] (zA4 μ σ π g) (fun r μ' => r = some (.int (nI (nmP σ L p))) ∧ μ' = zA4 μ (zu (zu σ 69 n (nI (nmBase (σ 68 p) + nmV σ L p))) 67 3 (nI (n + 1))) π g) := by
  refine zCt_of hZ mpX9_takesName (Nat.le_of_ble_eq_true rfl) (L := [some (.ref 67), some (.int (nI p)), none, none, none]) rfl (fun τ hY => ?_)
  have hT := hY.1
  have hb2 : ¬ p + 1 = L ∧ figB (σ 68 (p + 1)) = true ∧ (σ 68 p = 99 ∨ txN σ (p + 1) < 53) := by
    simp only [nmBad, Bool.or_eq_false_iff, Bool.and_eq_false_iff, decide_eq_false_iff_not, Bool.not_eq_false', ne_eq, Decidable.not_not, Nat.not_le] at hb
    exact hb
  obtain ⟨hq, hf, h9⟩ := hb2
  obtain ⟨f1, f2, f3⟩ := figB_tx hf
  have fin : ∀ q v, q = nmP σ L p → v = nmV σ L p → zJ τ (zFn τ (fun r μ' => r = some (.int (nI (nmP σ L p))) ∧ μ' = zA4 μ (zu (zu σ 69 n (nI (nmBase (σ 68 p) + nmV σ L p))) 67 3 (nI (n + 1))) π g) 0 0) 126 [some (.ref 67), some (.int (nI p)), some (.int (σ 68 p)), some (.int (nI q)), some (.int (nI v))] [] (zA4 μ σ π g) 0 0 := by
    intro q v hq' hv'
    rw [hq', hv']
    by_cases s1 : σ 68 p = 99
    · have eb : nmBase (σ 68 p) = 20000 := if_pos s1
      rw [eb]
      refine J_aload_n (i := 0) hT dX9_takesName_126 rfl rfl ?_
      refine J_iload_n (i := 2) hT dX9_takesName_127 rfl rfl ?_
      refine J_bipush (v := 99) hT dX9_takesName_128 rfl ?_
      refine J_icmp_ne (tgt := 139) hT dX9_takesName_130 (by decide) (fun q => absurd (s1) q) (fun _ => ?_)
      refine J_sipush (v := 20000) hT dX9_takesName_133 rfl ?_
      refine J_goto (tgt := 154) hT dX9_takesName_136 (by decide) ?_
      refine J_iload (i := 4) hT dX9_takesName_154 rfl ?_
      refine J_iadd hT dX9_takesName_156 ?_
      refine J_topil ((nI_add 20000 (nmV σ L p))) ?_
      refine R_callV0 (ci := 9) hY dX9_takesName_157 mfX9_makes miX9_makes msX9_makes kX9_163 ⟨by decide, rfl⟩ (rk hS) (c_X9_makes hZ hS hn hm) rfl (by decide) rfl rfl (Nat.le_of_ble_eq_true rfl) (Nat.le_refl _) (Nat.le_refl _) ?_
      refine J_iload_n (i := 3) hT dX9_takesName_160 rfl rfl ?_
      exact J_iret hT dX9_takesName_161 rfl rfl (⟨rfl, rfl⟩) (Nat.le_refl _) (Nat.le_refl _)
    · by_cases s2 : σ 68 p = 114
      · have eb : nmBase (σ 68 p) = 21000 := (if_neg s1).trans (if_pos s2)
        rw [eb]
        refine J_aload_n (i := 0) hT dX9_takesName_126 rfl rfl ?_
        refine J_iload_n (i := 2) hT dX9_takesName_127 rfl rfl ?_
        refine J_bipush (v := 99) hT dX9_takesName_128 rfl ?_
        refine J_icmp_ne (tgt := 139) hT dX9_takesName_130 (by decide) (fun _ => ?_) (fun q => absurd q (s1))
        refine J_iload_n (i := 2) hT dX9_takesName_139 rfl rfl ?_
        refine J_bipush (v := 114) hT dX9_takesName_140 rfl ?_
        refine J_icmp_ne (tgt := 151) hT dX9_takesName_142 (by decide) (fun q => absurd (s2) q) (fun _ => ?_)
        refine J_sipush (v := 21000) hT dX9_takesName_145 rfl ?_
        refine J_goto (tgt := 154) hT dX9_takesName_148 (by decide) ?_
        refine J_iload (i := 4) hT dX9_takesName_154 rfl ?_
        refine J_iadd hT dX9_takesName_156 ?_
        refine J_topil ((nI_add 21000 (nmV σ L p))) ?_
        refine R_callV0 (ci := 9) hY dX9_takesName_157 mfX9_makes miX9_makes msX9_makes kX9_163 ⟨by decide, rfl⟩ (rk hS) (c_X9_makes hZ hS hn hm) rfl (by decide) rfl rfl (Nat.le_of_ble_eq_true rfl) (Nat.le_refl _) (Nat.le_refl _) ?_
        refine J_iload_n (i := 3) hT dX9_takesName_160 rfl rfl ?_
        exact J_iret hT dX9_takesName_161 rfl rfl (⟨rfl, rfl⟩) (Nat.le_refl _) (Nat.le_refl _)
      · have eb : nmBase (σ 68 p) = 22000 := (if_neg s1).trans (if_neg s2)
        rw [eb]
        refine J_aload_n (i := 0) hT dX9_takesName_126 rfl rfl ?_
        refine J_iload_n (i := 2) hT dX9_takesName_127 rfl rfl ?_
        refine J_bipush (v := 99) hT dX9_takesName_128 rfl ?_
        refine J_icmp_ne (tgt := 139) hT dX9_takesName_130 (by decide) (fun _ => ?_) (fun q => absurd q (s1))
        refine J_iload_n (i := 2) hT dX9_takesName_139 rfl rfl ?_
        refine J_bipush (v := 114) hT dX9_takesName_140 rfl ?_
        refine J_icmp_ne (tgt := 151) hT dX9_takesName_142 (by decide) (fun _ => ?_) (fun q => absurd q (s2))
        refine J_sipush (v := 22000) hT dX9_takesName_151 rfl ?_
        refine J_iload (i := 4) hT dX9_takesName_154 rfl ?_
        refine J_iadd hT dX9_takesName_156 ?_
        refine J_topil ((nI_add 22000 (nmV σ L p))) ?_
        refine R_callV0 (ci := 9) hY dX9_takesName_157 mfX9_makes miX9_makes msX9_makes kX9_163 ⟨by decide, rfl⟩ (rk hS) (c_X9_makes hZ hS hn hm) rfl (by decide) rfl rfl (Nat.le_of_ble_eq_true rfl) (Nat.le_refl _) (Nat.le_refl _) ?_
        refine J_iload_n (i := 3) hT dX9_takesName_160 rfl rfl ?_
        exact J_iret hT dX9_takesName_161 rfl rfl (⟨rfl, rfl⟩) (Nat.le_refl _) (Nat.le_refl _)
  have one : nmTwo σ L p = false → zJ τ (zFn τ (fun r μ' => r = some (.int (nI (nmP σ L p))) ∧ μ' = zA4 μ (zu (zu σ 69 n (nI (nmBase (σ 68 p) + nmV σ L p))) 67 3 (nI (n + 1))) π g) 0 0) 126 [some (.ref 67), some (.int (nI p)), some (.int (σ 68 p)), some (.int (nI (p + 2))), some (.int (nI (txN σ (p + 1) - 48)))] [] (zA4 μ σ π g) 0 0 := fun h2 => fin _ _ (by unfold nmP; rw [h2]; rfl) (by unfold nmV; rw [h2]; rfl)
  have mid : zJ τ (zFn τ (fun r μ' => r = some (.int (nI (nmP σ L p))) ∧ μ' = zA4 μ (zu (zu σ 69 n (nI (nmBase (σ 68 p) + nmV σ L p))) 67 3 (nI (n + 1))) π g) 0 0) 64 [some (.ref 67), some (.int (nI p)), some (.int (σ 68 p)), some (.int (nI (p + 1))), some (.int (nI (txN σ (p + 1) - 48)))] [] (zA4 μ σ π g) 0 0 := by
    by_cases s1 : σ 68 p = 99
    · by_cases s2 : txN σ (p + 1) = 49
      · by_cases s3 : p + 2 < L
        · by_cases s4 : σ 68 (p + 2) = 48
          · refine S_iinc3 hT dX9_takesName_64 (nI_inc _) rfl ?_
            refine J_iload_n (i := 2) hT dX9_takesName_67 rfl rfl ?_
            refine J_bipush (v := 99) hT dX9_takesName_68 rfl ?_
            refine J_icmp_ne (tgt := 126) hT dX9_takesName_70 (by decide) (fun q => absurd (s1) q) (fun _ => ?_)
            refine J_iload (i := 4) hT dX9_takesName_73 rfl ?_
            refine J_iconst (v := 1) hT dX9_takesName_75 rfl ?_
            refine J_icmp_ne (tgt := 126) hT dX9_takesName_76 (by decide) (fun q => absurd ((show nI (txN σ (p + 1) - 48) = 1 by rw [s2]; rfl)) q) (fun _ => ?_)
            refine J_iload_n (i := 3) hT dX9_takesName_79 rfl rfl ?_
            refine J_aload_n (i := 0) hT dX9_takesName_80 rfl rfl ?_
            refine R_getI hT fX9_147 rfl dX9_takesName_81 (rk hS) ?_
            refine J_topil (hL) ?_
            refine J_icmp_ge (tgt := 126) hT dX9_takesName_84 (by decide) (fun q => absurd q (Int32.not_le.mpr (nI_lt (a := p + 2) (b := L) (by omega) (by omega)))) (fun _ => ?_)
            refine J_aload_n (i := 0) hT dX9_takesName_87 rfl rfl ?_
            refine R_getP hT fX9_7 rfl dX9_takesName_88 (rk hS) (rp_text hS) ?_
            refine J_iload_n (i := 3) hT dX9_takesName_91 rfl rfl ?_
            refine R_iald hT dX9_takesName_92 (rk_text hS) (rl_text hS) (by first | exact ⟨rfl, by decide⟩ | exact zix_nI (by omega) (by decide) | assumption) ?_
            refine J_bipush (v := 48) hT dX9_takesName_93 rfl ?_
            refine J_icmp_eq (tgt := 109) hT dX9_takesName_95 (by decide) (fun _ => ?_) (fun q => absurd (s4) q)
            refine J_bipush (v := 10) hT dX9_takesName_109 rfl ?_
            refine J_aload_n (i := 0) hT dX9_takesName_111 rfl rfl ?_
            refine R_getP hT fX9_7 rfl dX9_takesName_112 (rk hS) (rp_text hS) ?_
            refine J_iload_n (i := 3) hT dX9_takesName_115 rfl rfl ?_
            refine R_iald hT dX9_takesName_116 (rk_text hS) (rl_text hS) (by first | exact ⟨rfl, by decide⟩ | exact zix_nI (by omega) (by decide) | assumption) ?_
            refine J_iadd hT dX9_takesName_117 ?_
            refine J_bipush (v := 48) hT dX9_takesName_118 rfl ?_
            refine J_isub hT dX9_takesName_120 ?_
            refine J_topil (y := nI (10 + (txN σ (p + 2) - 48))) (by rw [show txN σ (p + 2) = 48 from by unfold txN; rw [s4]; rfl, s4]; rfl) ?_
            refine S_istore4 hT dX9_takesName_121 rfl ?_
            refine S_iinc3 hT dX9_takesName_123 (nI_inc _) rfl ?_
            exact fin (p + 3) (10 + (txN σ (p + 2) - 48)) (by unfold nmP; rw [show nmTwo σ L p = true by simp [nmTwo, s1, s2, s3, s4]]; rfl) (by unfold nmV; rw [show nmTwo σ L p = true by simp [nmTwo, s1, s2, s3, s4]]; rfl)
          · by_cases s5 : σ 68 (p + 2) = 49
            · refine S_iinc3 hT dX9_takesName_64 (nI_inc _) rfl ?_
              refine J_iload_n (i := 2) hT dX9_takesName_67 rfl rfl ?_
              refine J_bipush (v := 99) hT dX9_takesName_68 rfl ?_
              refine J_icmp_ne (tgt := 126) hT dX9_takesName_70 (by decide) (fun q => absurd (s1) q) (fun _ => ?_)
              refine J_iload (i := 4) hT dX9_takesName_73 rfl ?_
              refine J_iconst (v := 1) hT dX9_takesName_75 rfl ?_
              refine J_icmp_ne (tgt := 126) hT dX9_takesName_76 (by decide) (fun q => absurd ((show nI (txN σ (p + 1) - 48) = 1 by rw [s2]; rfl)) q) (fun _ => ?_)
              refine J_iload_n (i := 3) hT dX9_takesName_79 rfl rfl ?_
              refine J_aload_n (i := 0) hT dX9_takesName_80 rfl rfl ?_
              refine R_getI hT fX9_147 rfl dX9_takesName_81 (rk hS) ?_
              refine J_topil (hL) ?_
              refine J_icmp_ge (tgt := 126) hT dX9_takesName_84 (by decide) (fun q => absurd q (Int32.not_le.mpr (nI_lt (a := p + 2) (b := L) (by omega) (by omega)))) (fun _ => ?_)
              refine J_aload_n (i := 0) hT dX9_takesName_87 rfl rfl ?_
              refine R_getP hT fX9_7 rfl dX9_takesName_88 (rk hS) (rp_text hS) ?_
              refine J_iload_n (i := 3) hT dX9_takesName_91 rfl rfl ?_
              refine R_iald hT dX9_takesName_92 (rk_text hS) (rl_text hS) (by first | exact ⟨rfl, by decide⟩ | exact zix_nI (by omega) (by decide) | assumption) ?_
              refine J_bipush (v := 48) hT dX9_takesName_93 rfl ?_
              refine J_icmp_eq (tgt := 109) hT dX9_takesName_95 (by decide) (fun q => absurd q (s4)) (fun _ => ?_)
              refine J_aload_n (i := 0) hT dX9_takesName_98 rfl rfl ?_
              refine R_getP hT fX9_7 rfl dX9_takesName_99 (rk hS) (rp_text hS) ?_
              refine J_iload_n (i := 3) hT dX9_takesName_102 rfl rfl ?_
              refine R_iald hT dX9_takesName_103 (rk_text hS) (rl_text hS) (by first | exact ⟨rfl, by decide⟩ | exact zix_nI (by omega) (by decide) | assumption) ?_
              refine J_bipush (v := 49) hT dX9_takesName_104 rfl ?_
              refine J_icmp_ne (tgt := 126) hT dX9_takesName_106 (by decide) (fun q => absurd (s5) q) (fun _ => ?_)
              refine J_bipush (v := 10) hT dX9_takesName_109 rfl ?_
              refine J_aload_n (i := 0) hT dX9_takesName_111 rfl rfl ?_
              refine R_getP hT fX9_7 rfl dX9_takesName_112 (rk hS) (rp_text hS) ?_
              refine J_iload_n (i := 3) hT dX9_takesName_115 rfl rfl ?_
              refine R_iald hT dX9_takesName_116 (rk_text hS) (rl_text hS) (by first | exact ⟨rfl, by decide⟩ | exact zix_nI (by omega) (by decide) | assumption) ?_
              refine J_iadd hT dX9_takesName_117 ?_
              refine J_bipush (v := 48) hT dX9_takesName_118 rfl ?_
              refine J_isub hT dX9_takesName_120 ?_
              refine J_topil (y := nI (10 + (txN σ (p + 2) - 48))) (by rw [show txN σ (p + 2) = 49 from by unfold txN; rw [s5]; rfl, s5]; rfl) ?_
              refine S_istore4 hT dX9_takesName_121 rfl ?_
              refine S_iinc3 hT dX9_takesName_123 (nI_inc _) rfl ?_
              exact fin (p + 3) (10 + (txN σ (p + 2) - 48)) (by unfold nmP; rw [show nmTwo σ L p = true by simp [nmTwo, s1, s2, s3, s5]]; rfl) (by unfold nmV; rw [show nmTwo σ L p = true by simp [nmTwo, s1, s2, s3, s5]]; rfl)
            · refine S_iinc3 hT dX9_takesName_64 (nI_inc _) rfl ?_
              refine J_iload_n (i := 2) hT dX9_takesName_67 rfl rfl ?_
              refine J_bipush (v := 99) hT dX9_takesName_68 rfl ?_
              refine J_icmp_ne (tgt := 126) hT dX9_takesName_70 (by decide) (fun q => absurd (s1) q) (fun _ => ?_)
              refine J_iload (i := 4) hT dX9_takesName_73 rfl ?_
              refine J_iconst (v := 1) hT dX9_takesName_75 rfl ?_
              refine J_icmp_ne (tgt := 126) hT dX9_takesName_76 (by decide) (fun q => absurd ((show nI (txN σ (p + 1) - 48) = 1 by rw [s2]; rfl)) q) (fun _ => ?_)
              refine J_iload_n (i := 3) hT dX9_takesName_79 rfl rfl ?_
              refine J_aload_n (i := 0) hT dX9_takesName_80 rfl rfl ?_
              refine R_getI hT fX9_147 rfl dX9_takesName_81 (rk hS) ?_
              refine J_topil (hL) ?_
              refine J_icmp_ge (tgt := 126) hT dX9_takesName_84 (by decide) (fun q => absurd q (Int32.not_le.mpr (nI_lt (a := p + 2) (b := L) (by omega) (by omega)))) (fun _ => ?_)
              refine J_aload_n (i := 0) hT dX9_takesName_87 rfl rfl ?_
              refine R_getP hT fX9_7 rfl dX9_takesName_88 (rk hS) (rp_text hS) ?_
              refine J_iload_n (i := 3) hT dX9_takesName_91 rfl rfl ?_
              refine R_iald hT dX9_takesName_92 (rk_text hS) (rl_text hS) (by first | exact ⟨rfl, by decide⟩ | exact zix_nI (by omega) (by decide) | assumption) ?_
              refine J_bipush (v := 48) hT dX9_takesName_93 rfl ?_
              refine J_icmp_eq (tgt := 109) hT dX9_takesName_95 (by decide) (fun q => absurd q (s4)) (fun _ => ?_)
              refine J_aload_n (i := 0) hT dX9_takesName_98 rfl rfl ?_
              refine R_getP hT fX9_7 rfl dX9_takesName_99 (rk hS) (rp_text hS) ?_
              refine J_iload_n (i := 3) hT dX9_takesName_102 rfl rfl ?_
              refine R_iald hT dX9_takesName_103 (rk_text hS) (rl_text hS) (by first | exact ⟨rfl, by decide⟩ | exact zix_nI (by omega) (by decide) | assumption) ?_
              refine J_bipush (v := 49) hT dX9_takesName_104 rfl ?_
              refine J_icmp_ne (tgt := 126) hT dX9_takesName_106 (by decide) (fun _ => ?_) (fun q => absurd q (s5))
              exact one (by simp [nmTwo, s4, s5])
        · refine S_iinc3 hT dX9_takesName_64 (nI_inc _) rfl ?_
          refine J_iload_n (i := 2) hT dX9_takesName_67 rfl rfl ?_
          refine J_bipush (v := 99) hT dX9_takesName_68 rfl ?_
          refine J_icmp_ne (tgt := 126) hT dX9_takesName_70 (by decide) (fun q => absurd (s1) q) (fun _ => ?_)
          refine J_iload (i := 4) hT dX9_takesName_73 rfl ?_
          refine J_iconst (v := 1) hT dX9_takesName_75 rfl ?_
          refine J_icmp_ne (tgt := 126) hT dX9_takesName_76 (by decide) (fun q => absurd ((show nI (txN σ (p + 1) - 48) = 1 by rw [s2]; rfl)) q) (fun _ => ?_)
          refine J_iload_n (i := 3) hT dX9_takesName_79 rfl rfl ?_
          refine J_aload_n (i := 0) hT dX9_takesName_80 rfl rfl ?_
          refine R_getI hT fX9_147 rfl dX9_takesName_81 (rk hS) ?_
          refine J_topil (hL) ?_
          refine J_icmp_ge (tgt := 126) hT dX9_takesName_84 (by decide) (fun _ => ?_) (fun q => absurd (nI_le (a := L) (b := p + 2) (by omega) (by omega)) q)
          exact one (by simp [nmTwo, s3])
      · refine S_iinc3 hT dX9_takesName_64 (nI_inc _) rfl ?_
        refine J_iload_n (i := 2) hT dX9_takesName_67 rfl rfl ?_
        refine J_bipush (v := 99) hT dX9_takesName_68 rfl ?_
        refine J_icmp_ne (tgt := 126) hT dX9_takesName_70 (by decide) (fun q => absurd (s1) q) (fun _ => ?_)
        refine J_iload (i := 4) hT dX9_takesName_73 rfl ?_
        refine J_iconst (v := 1) hT dX9_takesName_75 rfl ?_
        refine J_icmp_ne (tgt := 126) hT dX9_takesName_76 (by decide) (fun _ => ?_) (fun q => absurd q (fun q => s2 (by have := (nI_eq (a := txN σ (p + 1) - 48) (b := 1) (by omega) (by decide)).mp q; omega)))
        exact one (by simp [nmTwo, s2])
    · refine S_iinc3 hT dX9_takesName_64 (nI_inc _) rfl ?_
      refine J_iload_n (i := 2) hT dX9_takesName_67 rfl rfl ?_
      refine J_bipush (v := 99) hT dX9_takesName_68 rfl ?_
      refine J_icmp_ne (tgt := 126) hT dX9_takesName_70 (by decide) (fun _ => ?_) (fun q => absurd q (s1))
      exact one (by simp [nmTwo, s1])
  by_cases s1 : σ 68 p = 99
  · refine J_aload_n (i := 0) hT dX9_takesName_0 rfl rfl ?_
    refine R_getP hT fX9_7 rfl dX9_takesName_1 (rk hS) (rp_text hS) ?_
    refine J_iload_n (i := 1) hT dX9_takesName_4 rfl rfl ?_
    refine R_iald hT dX9_takesName_5 (rk_text hS) (rl_text hS) (by first | exact ⟨rfl, by decide⟩ | exact zix_nI (by omega) (by decide) | assumption) ?_
    refine S_istore2 hT dX9_takesName_6 rfl rfl ?_
    refine J_iload_n (i := 1) hT dX9_takesName_7 rfl rfl ?_
    refine J_iconst (v := 1) hT dX9_takesName_8 rfl ?_
    refine J_iadd hT dX9_takesName_9 ?_
    refine J_topil ((nI_1 p)) ?_
    refine S_istore3 hT dX9_takesName_10 rfl rfl ?_
    refine J_iload_n (i := 3) hT dX9_takesName_11 rfl rfl ?_
    refine J_aload_n (i := 0) hT dX9_takesName_12 rfl rfl ?_
    refine R_getI hT fX9_147 rfl dX9_takesName_13 (rk hS) ?_
    refine J_topil (hL) ?_
    refine J_icmp_ne (tgt := 24) hT dX9_takesName_16 (by decide) (fun _ => ?_) (fun q => absurd q (fun q => hq ((nI_eq (by omega) (by omega)).mp q)))
    refine J_aload_n (i := 0) hT dX9_takesName_24 rfl rfl ?_
    refine R_getP hT fX9_7 rfl dX9_takesName_25 (rk hS) (rp_text hS) ?_
    refine J_iload_n (i := 3) hT dX9_takesName_28 rfl rfl ?_
    refine R_iald hT dX9_takesName_29 (rk_text hS) (rl_text hS) (by first | exact ⟨rfl, by decide⟩ | exact zix_nI (by omega) (by decide) | assumption) ?_
    refine J_bipush (v := 48) hT dX9_takesName_30 rfl ?_
    refine J_isub hT dX9_takesName_32 ?_
    refine J_topil ((sub48 hf)) ?_
    refine S_istore4 hT dX9_takesName_33 rfl ?_
    refine J_aload_n (i := 0) hT dX9_takesName_35 rfl rfl ?_
    refine R_getP hT fX9_7 rfl dX9_takesName_36 (rk hS) (rp_text hS) ?_
    refine J_iload_n (i := 3) hT dX9_takesName_39 rfl rfl ?_
    refine R_iald hT dX9_takesName_40 (rk_text hS) (rl_text hS) (by first | exact ⟨rfl, by decide⟩ | exact zix_nI (by omega) (by decide) | assumption) ?_
    refine R_callS1 hY dX9_takesName_41 mfX9_isFigure mtX9_isFigure kX9_133 (c_X9_isFigure hZ) rfl (by decide) rfl rfl (Nat.le_of_ble_eq_true rfl) (Nat.le_refl _) (Nat.le_refl _) ?_
    refine J_topil (zbT hf) ?_
    refine J_if_eq (tgt := 59) hT dX9_takesName_44 (by decide) (fun q => absurd q (by decide)) (fun _ => ?_)
    refine J_iload_n (i := 2) hT dX9_takesName_47 rfl rfl ?_
    refine J_bipush (v := 99) hT dX9_takesName_48 rfl ?_
    refine J_icmp_eq (tgt := 64) hT dX9_takesName_50 (by decide) (fun _ => ?_) (fun q => absurd (s1) q)
    exact mid
  · have s2 := h9.resolve_left s1
    refine J_aload_n (i := 0) hT dX9_takesName_0 rfl rfl ?_
    refine R_getP hT fX9_7 rfl dX9_takesName_1 (rk hS) (rp_text hS) ?_
    refine J_iload_n (i := 1) hT dX9_takesName_4 rfl rfl ?_
    refine R_iald hT dX9_takesName_5 (rk_text hS) (rl_text hS) (by first | exact ⟨rfl, by decide⟩ | exact zix_nI (by omega) (by decide) | assumption) ?_
    refine S_istore2 hT dX9_takesName_6 rfl rfl ?_
    refine J_iload_n (i := 1) hT dX9_takesName_7 rfl rfl ?_
    refine J_iconst (v := 1) hT dX9_takesName_8 rfl ?_
    refine J_iadd hT dX9_takesName_9 ?_
    refine J_topil ((nI_1 p)) ?_
    refine S_istore3 hT dX9_takesName_10 rfl rfl ?_
    refine J_iload_n (i := 3) hT dX9_takesName_11 rfl rfl ?_
    refine J_aload_n (i := 0) hT dX9_takesName_12 rfl rfl ?_
    refine R_getI hT fX9_147 rfl dX9_takesName_13 (rk hS) ?_
    refine J_topil (hL) ?_
    refine J_icmp_ne (tgt := 24) hT dX9_takesName_16 (by decide) (fun _ => ?_) (fun q => absurd q (fun q => hq ((nI_eq (by omega) (by omega)).mp q)))
    refine J_aload_n (i := 0) hT dX9_takesName_24 rfl rfl ?_
    refine R_getP hT fX9_7 rfl dX9_takesName_25 (rk hS) (rp_text hS) ?_
    refine J_iload_n (i := 3) hT dX9_takesName_28 rfl rfl ?_
    refine R_iald hT dX9_takesName_29 (rk_text hS) (rl_text hS) (by first | exact ⟨rfl, by decide⟩ | exact zix_nI (by omega) (by decide) | assumption) ?_
    refine J_bipush (v := 48) hT dX9_takesName_30 rfl ?_
    refine J_isub hT dX9_takesName_32 ?_
    refine J_topil ((sub48 hf)) ?_
    refine S_istore4 hT dX9_takesName_33 rfl ?_
    refine J_aload_n (i := 0) hT dX9_takesName_35 rfl rfl ?_
    refine R_getP hT fX9_7 rfl dX9_takesName_36 (rk hS) (rp_text hS) ?_
    refine J_iload_n (i := 3) hT dX9_takesName_39 rfl rfl ?_
    refine R_iald hT dX9_takesName_40 (rk_text hS) (rl_text hS) (by first | exact ⟨rfl, by decide⟩ | exact zix_nI (by omega) (by decide) | assumption) ?_
    refine R_callS1 hY dX9_takesName_41 mfX9_isFigure mtX9_isFigure kX9_133 (c_X9_isFigure hZ) rfl (by decide) rfl rfl (Nat.le_of_ble_eq_true rfl) (Nat.le_refl _) (Nat.le_refl _) ?_
    refine J_topil (zbT hf) ?_
    refine J_if_eq (tgt := 59) hT dX9_takesName_44 (by decide) (fun q => absurd q (by decide)) (fun _ => ?_)
    refine J_iload_n (i := 2) hT dX9_takesName_47 rfl rfl ?_
    refine J_bipush (v := 99) hT dX9_takesName_48 rfl ?_
    refine J_icmp_eq (tgt := 64) hT dX9_takesName_50 (by decide) (fun q => absurd q (s1)) (fun _ => ?_)
    refine J_iload (i := 4) hT dX9_takesName_53 rfl ?_
    refine J_iconst (v := 5) hT dX9_takesName_55 rfl ?_
    refine J_icmp_lt (tgt := 64) hT dX9_takesName_56 (by decide) (fun _ => ?_) (fun q => absurd (nI_lt (a := txN σ (p + 1) - 48) (b := 5) (by omega) (by decide)) q)
    exact mid
