theorem nI_mul (a b : Nat) : nI a * nI b = nI (a * b) := by
  show Int32.ofNat a * Int32.ofNat b = Int32.ofNat (a * b)
  rw [Int32.ofNat_mul]
theorem wantC {σ : Nat → Nat → Int32} {s : Nat} (hc : okC (σ 82 s)) (h : wantP σ s 5 = true) : ∃ c, c < 12 ∧ σ 82 s = nI c := by
  rcases hc with hc | h2
  · simp [wantP, hc] at h
  · exact h2

set_option maxRecDepth 100000 in
set_option maxHeartbeats 4000000 in
theorem c_X9_nextDirty {l : Launch} {Z : zZ} (hZ : zSt l Z) {μ : zMem} {σ : Nat → Nat → Int32} {π : Nat → Nat → Option Nat} {g : Nat → Nat → Int64} (hS : zRef μ π) : zCt l Z mX9_nextDirty 0 0 0 [.ref 67] (zA4 μ σ π g) (fun r μ' => r = some (.int (oI (ndP σ 12))) ∧ μ' = zA4 μ σ π g) := by
  refine zCt_of hZ mpX9_nextDirty (Nat.le_of_ble_eq_true rfl) (L := [some (.ref 67), none, none]) rfl (fun τ hY => ?_)
  have hT := hY.1
  have loop : ∀ n i, i + n = 12 → zJ τ (zFn τ (fun r μ' => r = some (.int (oI (ndP σ 12))) ∧ μ' = zA4 μ σ π g) 0 0) 4 [some (.ref 67), some (.int (oI (ndP σ i))), some (.int (nI i))] [] (zA4 μ (σ) π g) 0 0 := by
    intro n
    induction n with
    | zero =>
      intro i hi
      have : i = 12 := by omega
      subst this
      refine J_iload_n (i := 2) hT dX9_nextDirty_4 rfl rfl ?_
      refine J_bipush (v := 12) hT dX9_nextDirty_5 rfl ?_
      refine J_icmp_ge (tgt := 50) hT dX9_nextDirty_7 (by decide) (fun _ => ?_) (fun q => absurd (nI_le (a := 12) (b := 12) (by decide) (by decide)) q)
      refine J_iload_n (i := 1) hT dX9_nextDirty_50 rfl rfl ?_
      exact J_iret hT dX9_nextDirty_51 rfl rfl (⟨rfl, rfl⟩) (Nat.le_refl _) (Nat.le_refl _)
    | succ n ih =>
      intro i hi
      cases hq : ndP σ i with
      | none =>
        refine J_iload_n (i := 2) hT dX9_nextDirty_4 rfl rfl ?_
        refine J_bipush (v := 12) hT dX9_nextDirty_5 rfl ?_
        refine J_icmp_ge (tgt := 50) hT dX9_nextDirty_7 (by decide) (fun q => absurd q (Int32.not_le.mpr (nI_lt (a := i) (b := 12) (by omega) (by decide)))) (fun _ => ?_)
        refine J_aload_n (i := 0) hT dX9_nextDirty_10 rfl rfl ?_
        refine R_getP hT fX9_74 rfl dX9_nextDirty_11 (rk hS) (rp_isDirty hS) ?_
        refine J_iload_n (i := 2) hT dX9_nextDirty_14 rfl rfl ?_
        refine R_zald hT dX9_nextDirty_15 (rk_isDirty hS) (rl_isDirty hS) (by first | exact ⟨rfl, by decide⟩ | exact zix_nI (by omega) (by decide) | assumption) ?_
        refine J_if_eq (tgt := 42) hT dX9_nextDirty_16 (by decide) (fun q16 => ?_) (fun q16 => ?_)
        · refine J_iload_n (i := 1) hT dX9_nextDirty_42 rfl rfl ?_
          refine J_topil (y := oI (ndP σ (i + 1))) ?_ ?_
          · simp only [ndP, hq]
            simp_all [oI]
          refine S_istore1 hT dX9_nextDirty_43 rfl rfl ?_
          refine S_iinc2 hT dX9_nextDirty_44 (nI_inc _) rfl ?_
          refine J_goto (tgt := 4) hT dX9_nextDirty_47 (by decide) ?_
          exact ih (i + 1) (by omega)
        · refine J_iload_n (i := 1) hT dX9_nextDirty_19 rfl rfl ?_
          refine J_if_lt (tgt := 38) hT dX9_nextDirty_20 (by decide) (fun _ => ?_) (fun q => absurd (by decide) q)
          refine J_iload_n (i := 2) hT dX9_nextDirty_38 rfl rfl ?_
          refine J_goto (tgt := 43) hT dX9_nextDirty_39 (by decide) ?_
          refine J_topil (y := oI (ndP σ (i + 1))) ?_ ?_
          · simp only [ndP, hq]
            simp_all [oI]
          refine S_istore1 hT dX9_nextDirty_43 rfl rfl ?_
          refine S_iinc2 hT dX9_nextDirty_44 (nI_inc _) rfl ?_
          refine J_goto (tgt := 4) hT dX9_nextDirty_47 (by decide) ?_
          exact ih (i + 1) (by omega)
      | some f =>
        have hf := ndP_lt σ i f hq
        refine J_iload_n (i := 2) hT dX9_nextDirty_4 rfl rfl ?_
        refine J_bipush (v := 12) hT dX9_nextDirty_5 rfl ?_
        refine J_icmp_ge (tgt := 50) hT dX9_nextDirty_7 (by decide) (fun q => absurd q (Int32.not_le.mpr (nI_lt (a := i) (b := 12) (by omega) (by decide)))) (fun _ => ?_)
        refine J_aload_n (i := 0) hT dX9_nextDirty_10 rfl rfl ?_
        refine R_getP hT fX9_74 rfl dX9_nextDirty_11 (rk hS) (rp_isDirty hS) ?_
        refine J_iload_n (i := 2) hT dX9_nextDirty_14 rfl rfl ?_
        refine R_zald hT dX9_nextDirty_15 (rk_isDirty hS) (rl_isDirty hS) (by first | exact ⟨rfl, by decide⟩ | exact zix_nI (by omega) (by decide) | assumption) ?_
        refine J_if_eq (tgt := 42) hT dX9_nextDirty_16 (by decide) (fun q16 => ?_) (fun q16 => ?_)
        · refine J_iload_n (i := 1) hT dX9_nextDirty_42 rfl rfl ?_
          refine J_topil (y := oI (ndP σ (i + 1))) ?_ ?_
          · simp only [ndP, hq]
            simp only [ge_iff_le, gt_iff_lt, ← Int32.not_lt, Decidable.not_not] at *; simp_all [oI, -Int32.not_lt, -Int32.not_le]
          refine S_istore1 hT dX9_nextDirty_43 rfl rfl ?_
          refine S_iinc2 hT dX9_nextDirty_44 (nI_inc _) rfl ?_
          refine J_goto (tgt := 4) hT dX9_nextDirty_47 (by decide) ?_
          exact ih (i + 1) (by omega)
        · refine J_iload_n (i := 1) hT dX9_nextDirty_19 rfl rfl ?_
          refine J_if_lt (tgt := 38) hT dX9_nextDirty_20 (by decide) (fun q => absurd q (nI_pos (by omega))) (fun _ => ?_)
          refine J_aload_n (i := 0) hT dX9_nextDirty_23 rfl rfl ?_
          refine R_getP hT fX9_44 rfl dX9_nextDirty_24 (rk hS) (rp_depth hS) ?_
          refine J_iload_n (i := 2) hT dX9_nextDirty_27 rfl rfl ?_
          refine R_iald hT dX9_nextDirty_28 (rk_depth hS) (rl_depth hS) (by first | exact ⟨rfl, by decide⟩ | exact zix_nI (by omega) (by decide) | assumption) ?_
          refine J_aload_n (i := 0) hT dX9_nextDirty_29 rfl rfl ?_
          refine R_getP hT fX9_44 rfl dX9_nextDirty_30 (rk hS) (rp_depth hS) ?_
          refine J_iload_n (i := 1) hT dX9_nextDirty_33 rfl rfl ?_
          refine R_iald hT dX9_nextDirty_34 (rk_depth hS) (rl_depth hS) (zix_nI (j := f) (by omega) (by decide)) ?_
          refine J_icmp_ge (tgt := 42) hT dX9_nextDirty_35 (by decide) (fun q35 => ?_) (fun q35 => ?_)
          · refine J_iload_n (i := 1) hT dX9_nextDirty_42 rfl rfl ?_
            refine J_topil (y := oI (ndP σ (i + 1))) ?_ ?_
            · simp only [ndP, hq]
              simp only [ge_iff_le, gt_iff_lt, ← Int32.not_lt, Decidable.not_not] at *; simp_all [oI, -Int32.not_lt, -Int32.not_le]
            refine S_istore1 hT dX9_nextDirty_43 rfl rfl ?_
            refine S_iinc2 hT dX9_nextDirty_44 (nI_inc _) rfl ?_
            refine J_goto (tgt := 4) hT dX9_nextDirty_47 (by decide) ?_
            exact ih (i + 1) (by omega)
          · refine J_iload_n (i := 2) hT dX9_nextDirty_38 rfl rfl ?_
            refine J_goto (tgt := 43) hT dX9_nextDirty_39 (by decide) ?_
            refine J_topil (y := oI (ndP σ (i + 1))) ?_ ?_
            · simp only [ndP, hq]
              simp only [ge_iff_le, gt_iff_lt, ← Int32.not_lt, Decidable.not_not] at *; simp_all [oI, -Int32.not_lt, -Int32.not_le]
            refine S_istore1 hT dX9_nextDirty_43 rfl rfl ?_
            refine S_iinc2 hT dX9_nextDirty_44 (nI_inc _) rfl ?_
            refine J_goto (tgt := 4) hT dX9_nextDirty_47 (by decide) ?_
            exact ih (i + 1) (by omega)
  refine J_iconst (v := -1) hT dX9_nextDirty_0 rfl ?_
  refine S_istore1 hT dX9_nextDirty_1 rfl rfl ?_
  refine J_iconst (v := 0) hT dX9_nextDirty_2 rfl ?_
  refine S_istore2 hT dX9_nextDirty_3 rfl rfl ?_
  exact loop 12 0 rfl

set_option maxRecDepth 100000 in
set_option maxHeartbeats 4000000 in
theorem c_X9_below {l : Launch} {Z : zZ} (hZ : zSt l Z) {μ : zMem} {σ : Nat → Nat → Int32} {π : Nat → Nat → Option Nat} {g : Nat → Nat → Int64} (hS : zRef μ π) {x : Int32} {h : Bool} : zCt l Z mX9_below 1 0 0 [.ref 67, .int x, .int (zbi h)] (zA4 μ σ π g) (fun r μ' => r = some (.int (belF σ h x)) ∧ μ' = zA4 μ σ π g) := by
  refine zCt_of hZ mpX9_below (Nat.le_of_ble_eq_true rfl) (L := [some (.ref 67), some (.int x), some (.int (zbi h)), none, none, none]) rfl (fun τ hY => ?_)
  have hT := hY.1
  have loop : ∀ n i, i + n = 12 → zJ τ (zFn τ (fun r μ' => r = some (.int (belF σ h x)) ∧ μ' = zA4 μ σ π g) 0 0) 5 [some (.ref 67), some (.int x), some (.int (zbi h)), some (.int (belR σ h x i)), some (.int (nI i)), none] [] (zA4 μ (σ) π g) 0 0 := by
    intro n
    induction n with
    | zero =>
      intro i hi
      have : i = 12 := by omega
      subst this
      refine J_iload (i := 4) hT dX9_below_5 rfl ?_
      refine J_bipush (v := 12) hT dX9_below_7 rfl ?_
      refine J_icmp_ge (tgt := 71) hT dX9_below_9 (by decide) (fun _ => ?_) (fun q => absurd (nI_le (a := 12) (b := 12) (by decide) (by decide)) q)
      refine J_iload_n (i := 3) hT dX9_below_71 rfl rfl ?_
      exact J_iret hT dX9_below_72 rfl rfl (⟨rfl, rfl⟩) (Nat.le_refl _) (Nat.le_refl _)
    | succ n ih =>
      intro i hi
      have inner : ∀ n2 k, k + n2 = 12 → zJ τ (zFn τ (fun r μ' => r = some (.int (belF σ h x)) ∧ μ' = zA4 μ σ π g) 0 0) 15 [some (.ref 67), some (.int x), some (.int (zbi h)), some (.int (belP σ h (belR σ h x i) k)), some (.int (nI i)), some (.int (nI k))] [] (zA4 μ (σ) π g) 0 0 := by
        intro n2
        induction n2 with
        | zero =>
          intro k hk
          have : k = 12 := by omega
          subst this
          refine J_iload (i := 5) hT dX9_below_15 rfl ?_
          refine J_bipush (v := 12) hT dX9_below_17 rfl ?_
          refine J_icmp_ge (tgt := 65) hT dX9_below_19 (by decide) (fun _ => ?_) (fun q => absurd (nI_le (a := 12) (b := 12) (by decide) (by decide)) q)
          refine S_iinc4 hT dX9_below_65 (nI_inc _) rfl ?_
          refine J_goto (tgt := 5) hT dX9_below_68 (by decide) ?_
          refine J_L (L' := [_, _, _, _, _, none]) (zsub_keep (zsub_keep (zsub_keep (zsub_keep (zsub_keep (zsub_drop (zsub_refl _))))))) ?_
          exact ih (i + 1) (by omega)
        | succ n2 ih2 =>
          intro k hk
          refine J_iload (i := 5) hT dX9_below_15 rfl ?_
          refine J_bipush (v := 12) hT dX9_below_17 rfl ?_
          refine J_icmp_ge (tgt := 65) hT dX9_below_19 (by decide) (fun q => absurd q (Int32.not_le.mpr (nI_lt (a := k) (b := 12) (by omega) (by decide)))) (fun _ => ?_)
          refine J_iload_n (i := 3) hT dX9_below_22 rfl rfl ?_
          refine J_iload_n (i := 3) hT dX9_below_23 rfl rfl ?_
          refine J_iload (i := 5) hT dX9_below_24 rfl ?_
          refine R_callS1 hY dX9_below_26 mfX9_has mtX9_has kX9_197 (c_X9_has hZ (by omega)) rfl (by decide) rfl rfl (Nat.le_of_ble_eq_true rfl) (Nat.le_refl _) (Nat.le_refl _) ?_
          refine J_if_eq (tgt := 56) hT dX9_below_29 (by decide) (fun q29 => ?_) (fun q29 => ?_)
          · refine J_iconst (v := 0) hT dX9_below_56 rfl ?_
            refine J_topil (y := if bt (belP σ h (belR σ h x i) k) k && !(h && decide (σ 80 k ≠ 0)) then σ 76 k else 0) ?_ ?_
            · simp only [zbi_0, zbi_ne] at *
              simp_all
            refine J_ior hT dX9_below_57 ?_
            refine S_istore3 hT dX9_below_58 rfl rfl ?_
            refine S_iinc5 hT dX9_below_59 (nI_inc _) rfl ?_
            refine J_goto (tgt := 15) hT dX9_below_62 (by decide) ?_
            exact ih2 (k + 1) (by omega)
          · refine J_iload_n (i := 2) hT dX9_below_32 rfl rfl ?_
            refine J_if_eq (tgt := 46) hT dX9_below_33 (by decide) (fun q33 => ?_) (fun q33 => ?_)
            · refine J_aload_n (i := 0) hT dX9_below_46 rfl rfl ?_
              refine R_getP hT fX9_35 rfl dX9_below_47 (rk hS) (rp_readsCells hS) ?_
              refine J_iload (i := 5) hT dX9_below_50 rfl ?_
              refine R_iald hT dX9_below_52 (rk_readsCells hS) (rl_readsCells hS) (by first | exact ⟨rfl, by decide⟩ | exact zix_nI (by omega) (by decide) | assumption) ?_
              refine J_goto (tgt := 57) hT dX9_below_53 (by decide) ?_
              refine J_topil (y := if bt (belP σ h (belR σ h x i) k) k && !(h && decide (σ 80 k ≠ 0)) then σ 76 k else 0) ?_ ?_
              · simp only [zbi_0, zbi_ne] at *
                simp_all
              refine J_ior hT dX9_below_57 ?_
              refine S_istore3 hT dX9_below_58 rfl rfl ?_
              refine S_iinc5 hT dX9_below_59 (nI_inc _) rfl ?_
              refine J_goto (tgt := 15) hT dX9_below_62 (by decide) ?_
              exact ih2 (k + 1) (by omega)
            · refine J_aload_n (i := 0) hT dX9_below_36 rfl rfl ?_
              refine R_getP hT fX9_47 rfl dX9_below_37 (rk hS) (rp_isHeld hS) ?_
              refine J_iload (i := 5) hT dX9_below_40 rfl ?_
              refine R_zald hT dX9_below_42 (rk_isHeld hS) (rl_isHeld hS) (by first | exact ⟨rfl, by decide⟩ | exact zix_nI (by omega) (by decide) | assumption) ?_
              refine J_if_ne (tgt := 56) hT dX9_below_43 (by decide) (fun q43 => ?_) (fun q43 => ?_)
              · refine J_iconst (v := 0) hT dX9_below_56 rfl ?_
                refine J_topil (y := if bt (belP σ h (belR σ h x i) k) k && !(h && decide (σ 80 k ≠ 0)) then σ 76 k else 0) ?_ ?_
                · simp only [zbi_0, zbi_ne] at *
                  simp_all
                refine J_ior hT dX9_below_57 ?_
                refine S_istore3 hT dX9_below_58 rfl rfl ?_
                refine S_iinc5 hT dX9_below_59 (nI_inc _) rfl ?_
                refine J_goto (tgt := 15) hT dX9_below_62 (by decide) ?_
                exact ih2 (k + 1) (by omega)
              · refine J_aload_n (i := 0) hT dX9_below_46 rfl rfl ?_
                refine R_getP hT fX9_35 rfl dX9_below_47 (rk hS) (rp_readsCells hS) ?_
                refine J_iload (i := 5) hT dX9_below_50 rfl ?_
                refine R_iald hT dX9_below_52 (rk_readsCells hS) (rl_readsCells hS) (by first | exact ⟨rfl, by decide⟩ | exact zix_nI (by omega) (by decide) | assumption) ?_
                refine J_goto (tgt := 57) hT dX9_below_53 (by decide) ?_
                refine J_topil (y := if bt (belP σ h (belR σ h x i) k) k && !(h && decide (σ 80 k ≠ 0)) then σ 76 k else 0) ?_ ?_
                · simp only [zbi_0, zbi_ne] at *
                  simp_all
                refine J_ior hT dX9_below_57 ?_
                refine S_istore3 hT dX9_below_58 rfl rfl ?_
                refine S_iinc5 hT dX9_below_59 (nI_inc _) rfl ?_
                refine J_goto (tgt := 15) hT dX9_below_62 (by decide) ?_
                exact ih2 (k + 1) (by omega)
      refine J_iload (i := 4) hT dX9_below_5 rfl ?_
      refine J_bipush (v := 12) hT dX9_below_7 rfl ?_
      refine J_icmp_ge (tgt := 71) hT dX9_below_9 (by decide) (fun q => absurd q (Int32.not_le.mpr (nI_lt (a := i) (b := 12) (by omega) (by decide)))) (fun _ => ?_)
      refine J_iconst (v := 0) hT dX9_below_12 rfl ?_
      refine S_istore5 hT dX9_below_13 rfl ?_
      exact inner 12 0 rfl
  refine J_iload_n (i := 1) hT dX9_below_0 rfl rfl ?_
  refine S_istore3 hT dX9_below_1 rfl rfl ?_
  refine J_iconst (v := 0) hT dX9_below_2 rfl ?_
  refine S_istore4 hT dX9_below_3 rfl ?_
  exact loop 12 0 rfl

set_option maxRecDepth 100000 in
set_option maxHeartbeats 4000000 in
theorem c_X9_stale {l : Launch} {Z : zZ} (hZ : zSt l Z) {μ : zMem} {σ : Nat → Nat → Int32} {π : Nat → Nat → Option Nat} {g : Nat → Nat → Int64} (hS : zRef μ π) {cc : Nat} (hcc : cc < 12) : zCt l Z mX9_stale 2 0 0 [.ref 67, .int (nI cc)] (zA4 μ σ π g) (fun r μ' => r = some (.int (zbi (staleB σ cc))) ∧ μ' = zA4 μ σ π g) := by
  refine zCt_of hZ mpX9_stale (Nat.le_of_ble_eq_true rfl) (L := [some (.ref 67), some (.int (nI cc)), none, none, none, none]) rfl (fun τ hY => ?_)
  have hT := hY.1
  have main : ∀ X : Int32, zJ τ (zFn τ (fun r μ' => r = some (.int (zbi (stO σ X 12))) ∧ μ' = zA4 μ σ π g) 0 0) 14 [some (.ref 67), some (.int (nI cc)), some (.int X), some (.int (zbi (stO σ X 0))), some (.int (nI 0)), none] [] (zA4 μ (σ) π g) 0 0 := by
    intro X
    have loop : ∀ n i, i + n = 12 → zJ τ (zFn τ (fun r μ' => r = some (.int (zbi (stO σ X 12))) ∧ μ' = zA4 μ σ π g) 0 0) 14 [some (.ref 67), some (.int (nI cc)), some (.int X), some (.int (zbi (stO σ X i))), some (.int (nI i)), none] [] (zA4 μ (σ) π g) 0 0 := by
      intro n
      induction n with
      | zero =>
        intro i hi
        have : i = 12 := by omega
        subst this
        refine J_iload (i := 4) hT dX9_stale_14 rfl ?_
        refine J_bipush (v := 12) hT dX9_stale_16 rfl ?_
        refine J_icmp_ge (tgt := 95) hT dX9_stale_18 (by decide) (fun _ => ?_) (fun q => absurd (nI_le (a := 12) (b := 12) (by decide) (by decide)) q)
        refine J_iload_n (i := 3) hT dX9_stale_95 rfl rfl ?_
        exact J_iret hT dX9_stale_96 rfl (zbi_nar _) (⟨rfl, rfl⟩) (Nat.le_refl _) (Nat.le_refl _)
      | succ n ih =>
        intro i hi
        have inner : ∀ n2 k, k + n2 = 5 → zJ τ (zFn τ (fun r μ' => r = some (.int (zbi (stO σ X 12))) ∧ μ' = zA4 μ σ π g) 0 0) 24 [some (.ref 67), some (.int (nI cc)), some (.int X), some (.int (zbi (stO σ X i || stI σ X i k))), some (.int (nI i)), some (.int (nI k))] [] (zA4 μ (σ) π g) 0 0 := by
          intro n2
          induction n2 with
          | zero =>
            intro k hk
            have : k = 5 := by omega
            subst this
            refine J_iload (i := 5) hT dX9_stale_24 rfl ?_
            refine J_iconst (v := 5) hT dX9_stale_26 rfl ?_
            refine J_icmp_ge (tgt := 89) hT dX9_stale_27 (by decide) (fun _ => ?_) (fun q => absurd (nI_le (a := 5) (b := 5) (by decide) (by decide)) q)
            refine S_iinc4 hT dX9_stale_89 (nI_inc _) rfl ?_
            refine J_goto (tgt := 14) hT dX9_stale_92 (by decide) ?_
            refine J_L (L' := [_, _, _, _, _, none]) (zsub_keep (zsub_keep (zsub_keep (zsub_keep (zsub_keep (zsub_drop (zsub_refl _))))))) ?_
            exact ih (i + 1) (by omega)
          | succ n2 ih2 =>
            intro k hk
            refine J_iload (i := 5) hT dX9_stale_24 rfl ?_
            refine J_iconst (v := 5) hT dX9_stale_26 rfl ?_
            refine J_icmp_ge (tgt := 89) hT dX9_stale_27 (by decide) (fun q => absurd q (Int32.not_le.mpr (nI_lt (a := k) (b := 5) (by omega) (by decide)))) (fun _ => ?_)
            refine J_iload_n (i := 3) hT dX9_stale_30 rfl rfl ?_
            refine J_if_ne (tgt := 77) hT dX9_stale_31 (by decide) (fun q31 => ?_) (fun q31 => ?_)
            · refine J_iconst (v := 1) hT dX9_stale_77 rfl ?_
              refine J_goto (tgt := 82) hT dX9_stale_78 (by decide) ?_
              refine J_topil (y := zbi (stO σ X i || stI σ X i (k + 1))) ?_ ?_
              · simp only [stI, zbi_0, zbi_ne, oldB] at *
                simp_all [zbi]
              refine S_istore3 hT dX9_stale_82 rfl rfl ?_
              refine S_iinc5 hT dX9_stale_83 (nI_inc _) rfl ?_
              refine J_goto (tgt := 24) hT dX9_stale_86 (by decide) ?_
              exact ih2 (k + 1) (by omega)
            · refine J_iload_n (i := 2) hT dX9_stale_34 rfl rfl ?_
              refine J_iload (i := 4) hT dX9_stale_35 rfl ?_
              refine R_callS1 hY dX9_stale_37 mfX9_has mtX9_has kX9_197 (c_X9_has hZ (by omega)) rfl (by decide) rfl rfl (Nat.le_of_ble_eq_true rfl) (Nat.le_refl _) (Nat.le_refl _) ?_
              refine J_if_eq (tgt := 81) hT dX9_stale_40 (by decide) (fun q40 => ?_) (fun q40 => ?_)
              · refine J_iconst (v := 0) hT dX9_stale_81 rfl ?_
                refine J_topil (y := zbi (stO σ X i || stI σ X i (k + 1))) ?_ ?_
                · simp only [stI, zbi_0, zbi_ne, oldB] at *
                  simp_all [zbi]
                refine S_istore3 hT dX9_stale_82 rfl rfl ?_
                refine S_iinc5 hT dX9_stale_83 (nI_inc _) rfl ?_
                refine J_goto (tgt := 24) hT dX9_stale_86 (by decide) ?_
                exact ih2 (k + 1) (by omega)
              · refine J_aload_n (i := 0) hT dX9_stale_43 rfl rfl ?_
                refine R_getP hT fX9_47 rfl dX9_stale_44 (rk hS) (rp_isHeld hS) ?_
                refine J_iload (i := 4) hT dX9_stale_47 rfl ?_
                refine R_zald hT dX9_stale_49 (rk_isHeld hS) (rl_isHeld hS) (by first | exact ⟨rfl, by decide⟩ | exact zix_nI (by omega) (by decide) | assumption) ?_
                refine J_if_ne (tgt := 81) hT dX9_stale_50 (by decide) (fun q50 => ?_) (fun q50 => ?_)
                · refine J_iconst (v := 0) hT dX9_stale_81 rfl ?_
                  refine J_topil (y := zbi (stO σ X i || stI σ X i (k + 1))) ?_ ?_
                  · simp only [stI, zbi_0, zbi_ne, oldB] at *
                    simp_all [zbi]
                  refine S_istore3 hT dX9_stale_82 rfl rfl ?_
                  refine S_iinc5 hT dX9_stale_83 (nI_inc _) rfl ?_
                  refine J_goto (tgt := 24) hT dX9_stale_86 (by decide) ?_
                  exact ih2 (k + 1) (by omega)
                · refine J_aload_n (i := 0) hT dX9_stale_53 rfl rfl ?_
                  refine R_getP hT fX9_38 rfl dX9_stale_54 (rk hS) (rp_readsReadings hS) ?_
                  refine J_iload (i := 4) hT dX9_stale_57 rfl ?_
                  refine R_iald hT dX9_stale_59 (rk_readsReadings hS) (rl_readsReadings hS) (by first | exact ⟨rfl, by decide⟩ | exact zix_nI (by omega) (by decide) | assumption) ?_
                  refine J_iload (i := 5) hT dX9_stale_60 rfl ?_
                  refine R_callS1 hY dX9_stale_62 mfX9_has mtX9_has kX9_197 (c_X9_has hZ (by omega)) rfl (by decide) rfl rfl (Nat.le_of_ble_eq_true rfl) (Nat.le_refl _) (Nat.le_refl _) ?_
                  refine J_if_eq (tgt := 81) hT dX9_stale_65 (by decide) (fun q65 => ?_) (fun q65 => ?_)
                  · refine J_iconst (v := 0) hT dX9_stale_81 rfl ?_
                    refine J_topil (y := zbi (stO σ X i || stI σ X i (k + 1))) ?_ ?_
                    · simp only [stI, zbi_0, zbi_ne, oldB] at *
                      simp_all [zbi]
                    refine S_istore3 hT dX9_stale_82 rfl rfl ?_
                    refine S_iinc5 hT dX9_stale_83 (nI_inc _) rfl ?_
                    refine J_goto (tgt := 24) hT dX9_stale_86 (by decide) ?_
                    exact ih2 (k + 1) (by omega)
                  · refine J_aload_n (i := 0) hT dX9_stale_68 rfl rfl ?_
                    refine J_iload (i := 5) hT dX9_stale_69 rfl ?_
                    refine R_callV1 (ci := 9) hY dX9_stale_71 mfX9_isOld miX9_isOld msX9_isOld kX9_225 ⟨by decide, rfl⟩ (rk hS) (c_X9_isOld hZ hS (by omega)) rfl (by decide) rfl rfl (Nat.le_of_ble_eq_true rfl) (Nat.le_refl _) (Nat.le_refl _) ?_
                    refine J_if_eq (tgt := 81) hT dX9_stale_74 (by decide) (fun q74 => ?_) (fun q74 => ?_)
                    · refine J_iconst (v := 0) hT dX9_stale_81 rfl ?_
                      refine J_topil (y := zbi (stO σ X i || stI σ X i (k + 1))) ?_ ?_
                      · simp only [stI, zbi_0, zbi_ne, oldB] at *
                        simp_all [zbi]
                      refine S_istore3 hT dX9_stale_82 rfl rfl ?_
                      refine S_iinc5 hT dX9_stale_83 (nI_inc _) rfl ?_
                      refine J_goto (tgt := 24) hT dX9_stale_86 (by decide) ?_
                      exact ih2 (k + 1) (by omega)
                    · refine J_iconst (v := 1) hT dX9_stale_77 rfl ?_
                      refine J_goto (tgt := 82) hT dX9_stale_78 (by decide) ?_
                      refine J_topil (y := zbi (stO σ X i || stI σ X i (k + 1))) ?_ ?_
                      · simp only [stI, zbi_0, zbi_ne, oldB] at *
                        simp_all [zbi]
                      refine S_istore3 hT dX9_stale_82 rfl rfl ?_
                      refine S_iinc5 hT dX9_stale_83 (nI_inc _) rfl ?_
                      refine J_goto (tgt := 24) hT dX9_stale_86 (by decide) ?_
                      exact ih2 (k + 1) (by omega)
        refine J_iload (i := 4) hT dX9_stale_14 rfl ?_
        refine J_bipush (v := 12) hT dX9_stale_16 rfl ?_
        refine J_icmp_ge (tgt := 95) hT dX9_stale_18 (by decide) (fun q => absurd q (Int32.not_le.mpr (nI_lt (a := i) (b := 12) (by omega) (by decide)))) (fun _ => ?_)
        refine J_iconst (v := 0) hT dX9_stale_21 rfl ?_
        refine S_istore5 hT dX9_stale_22 rfl ?_
        refine J_L (L' := [_, _, _, some (.int (zbi (stO σ X i || stI σ X i 0))), _, _]) ?_ (inner 5 0 rfl)
        rw [show (stO σ X i || stI σ X i 0) = stO σ X i by simp [stI]]
        exact zsub_refl _
    exact loop 12 0 rfl
  refine J_aload_n (i := 0) hT dX9_stale_0 rfl rfl ?_
  refine J_iconst (v := 1) hT dX9_stale_1 rfl ?_
  refine J_iload_n (i := 1) hT dX9_stale_2 rfl rfl ?_
  refine J_ishl hT dX9_stale_3 ?_
  refine J_iconst (v := 1) hT dX9_stale_4 rfl ?_
  refine R_callV1 (ci := 9) hY dX9_stale_5 mfX9_below miX9_below msX9_below kX9_221 ⟨by decide, rfl⟩ (rk hS) (c_X9_below hZ hS (h := true)) rfl (by decide) rfl rfl (Nat.le_of_ble_eq_true rfl) (Nat.le_refl _) (Nat.le_refl _) ?_
  refine S_istore2 hT dX9_stale_8 rfl rfl ?_
  refine J_iconst (v := 0) hT dX9_stale_9 rfl ?_
  refine S_istore3 hT dX9_stale_10 rfl rfl ?_
  refine J_iconst (v := 0) hT dX9_stale_11 rfl ?_
  refine S_istore4 hT dX9_stale_12 rfl ?_
  exact main _
