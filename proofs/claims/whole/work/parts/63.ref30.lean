theorem g110 : goesN 1 1 0 = 3 := rfl
theorem z30 : zbi (decide ((3 : Int32) = 0)) = 0 := rfl

set_option maxRecDepth 100000 in
set_option maxHeartbeats 4000000 in
theorem c_X9_formula_no1 {l : Launch} {Z : zZ} (hZ : zSt l Z) {μ : zMem} {σ : Nat → Nat → Int32} {π : Nat → Nat → Option Nat} {g : Nat → Nat → Int64} (hS : zRef μ π) {a : Int32} {L : Nat} (hb : cellB a = false) (hL : σ 67 1 = nI L) (hL30 : L ≤ 30) : zCt l Z mX9_formula 8 0 0 [.ref 67, .int a] (zA4 μ σ π g) (fun r μ' => r = some (.int 0) ∧ ∃ S, zpf σ S ∧ μ' = zA4 μ (zu S 67 45 1) π g) := by
  refine zCt_of hZ mpX9_formula (Nat.le_of_ble_eq_true rfl) (L := [some (.ref 67), some (.int a), none, none]) rfl (fun τ hY => ?_)
  have hT := hY.1
  by_cases hf : fltI (rdF σ L) L = -1
  · refine J_aload_n (i := 0) hT dX9_formula_0 rfl rfl ?_
    refine J_callV (ci := 9) hY dX9_formula_1 mfX9_faultOf miX9_faultOf msX9_faultOf kX9_179 ⟨by decide, rfl⟩ (rk hS) (c_X9_faultOf hZ hS hL hL30 rfl) rfl (by decide) rfl rfl (Nat.le_of_ble_eq_true rfl) (Nat.le_refl _) (Nat.le_refl _) (fun r1 μ1 hq1 => ?_)
    obtain ⟨rfl, S, rfl, hz, hPk⟩ := hq1
    refine J_topil (hf) ?_
    refine J_iconst (v := -1) hT dX9_formula_4 rfl ?_
    refine J_icmp_ne (tgt := 12) hT dX9_formula_5 (by decide) (fun q => absurd (rfl) q) (fun _ => ?_)
    refine J_iconst (v := 1) hT dX9_formula_8 rfl ?_
    refine J_goto (tgt := 13) hT dX9_formula_9 (by decide) ?_
    refine S_istore2 hT dX9_formula_13 rfl rfl ?_
    refine J_aload_n (i := 0) hT dX9_formula_14 rfl rfl ?_
    refine J_iload_n (i := 1) hT dX9_formula_15 rfl rfl ?_
    refine R_callS1 hY dX9_formula_16 mfX9_isCell mtX9_isCell kX9_286 (c_X9_isCell hZ) rfl (by decide) rfl rfl (Nat.le_of_ble_eq_true rfl) (Nat.le_refl _) (Nat.le_refl _) ?_
    refine J_topil (cell0 hb) ?_
    refine J_iload_n (i := 2) hT dX9_formula_19 rfl rfl ?_
    refine J_iload_n (i := 2) hT dX9_formula_20 rfl rfl ?_
    refine J_if_eq (tgt := 50) hT dX9_formula_21 (by decide) (fun q => absurd q (by decide)) (fun _ => ?_)
    refine J_iload_n (i := 1) hT dX9_formula_24 rfl rfl ?_
    refine R_callS1 hY dX9_formula_25 mfX9_isCell mtX9_isCell kX9_286 (c_X9_isCell hZ) rfl (by decide) rfl rfl (Nat.le_of_ble_eq_true rfl) (Nat.le_refl _) (Nat.le_refl _) ?_
    refine J_topil (cell0 hb) ?_
    refine J_if_eq (tgt := 50) hT dX9_formula_28 (by decide) (fun _ => ?_) (fun q => absurd (rfl) q)
    refine J_iconst (v := 0) hT dX9_formula_50 rfl ?_
    refine R_callV1 (ci := 9) hY dX9_formula_51 mfX9_goes miX9_goes msX9_goes kX9_150 ⟨by decide, rfl⟩ (rk hS) (c_X9_goes hZ hS) rfl (by decide) rfl rfl (Nat.le_of_ble_eq_true rfl) (Nat.le_refl _) (Nat.le_refl _) ?_
    rw [g0]
    refine J_topil (z10) ?_
    refine J_if_ne (tgt := 59) hT dX9_formula_54 (by decide) (fun q => absurd (rfl) q) (fun _ => ?_)
    refine J_iconst (v := 0) hT dX9_formula_57 rfl ?_
    exact J_iret hT dX9_formula_58 rfl rfl (⟨rfl, S, hz, rfl⟩) (Nat.le_refl _) (Nat.le_refl _)
  · refine J_aload_n (i := 0) hT dX9_formula_0 rfl rfl ?_
    refine J_callV (ci := 9) hY dX9_formula_1 mfX9_faultOf miX9_faultOf msX9_faultOf kX9_179 ⟨by decide, rfl⟩ (rk hS) (c_X9_faultOf hZ hS hL hL30 rfl) rfl (by decide) rfl rfl (Nat.le_of_ble_eq_true rfl) (Nat.le_refl _) (Nat.le_refl _) (fun r1 μ1 hq1 => ?_)
    obtain ⟨rfl, S, rfl, hz, hPk⟩ := hq1
    refine J_iconst (v := -1) hT dX9_formula_4 rfl ?_
    refine J_icmp_ne (tgt := 12) hT dX9_formula_5 (by decide) (fun _ => ?_) (fun q => absurd q (hf))
    refine J_iconst (v := 0) hT dX9_formula_12 rfl ?_
    refine S_istore2 hT dX9_formula_13 rfl rfl ?_
    refine J_aload_n (i := 0) hT dX9_formula_14 rfl rfl ?_
    refine J_iload_n (i := 1) hT dX9_formula_15 rfl rfl ?_
    refine R_callS1 hY dX9_formula_16 mfX9_isCell mtX9_isCell kX9_286 (c_X9_isCell hZ) rfl (by decide) rfl rfl (Nat.le_of_ble_eq_true rfl) (Nat.le_refl _) (Nat.le_refl _) ?_
    refine J_topil (cell0 hb) ?_
    refine J_iload_n (i := 2) hT dX9_formula_19 rfl rfl ?_
    refine J_iload_n (i := 2) hT dX9_formula_20 rfl rfl ?_
    refine J_if_eq (tgt := 50) hT dX9_formula_21 (by decide) (fun _ => ?_) (fun q => absurd (rfl) q)
    refine J_iconst (v := 0) hT dX9_formula_50 rfl ?_
    refine R_callV1 (ci := 9) hY dX9_formula_51 mfX9_goes miX9_goes msX9_goes kX9_150 ⟨by decide, rfl⟩ (rk hS) (c_X9_goes hZ hS) rfl (by decide) rfl rfl (Nat.le_of_ble_eq_true rfl) (Nat.le_refl _) (Nat.le_refl _) ?_
    rw [g0]
    refine J_topil (z10) ?_
    refine J_if_ne (tgt := 59) hT dX9_formula_54 (by decide) (fun q => absurd (rfl) q) (fun _ => ?_)
    refine J_iconst (v := 0) hT dX9_formula_57 rfl ?_
    exact J_iret hT dX9_formula_58 rfl rfl (⟨rfl, S, hz, rfl⟩) (Nat.le_refl _) (Nat.le_refl _)

set_option maxRecDepth 100000 in
set_option maxHeartbeats 4000000 in
theorem c_X9_formula_no2 {l : Launch} {Z : zZ} (hZ : zSt l Z) {μ : zMem} {σ : Nat → Nat → Int32} {π : Nat → Nat → Option Nat} {g : Nat → Nat → Int64} (hS : zRef μ π) {c L : Nat} (hc : c < 12) (hL : σ 67 1 = nI L) (hL30 : L ≤ 30) (hf : fltI (rdF σ L) L ≠ -1) : zCt l Z mX9_formula 8 0 0 [.ref 67, .int (nI c)] (zA4 μ σ π g) (fun r μ' => r = some (.int 0) ∧ ∃ S, zpf σ S ∧ μ' = zA4 μ (zu S 67 45 2) π g) := by
  refine zCt_of hZ mpX9_formula (Nat.le_of_ble_eq_true rfl) (L := [some (.ref 67), some (.int (nI c)), none, none]) rfl (fun τ hY => ?_)
  have hT := hY.1
  refine J_aload_n (i := 0) hT dX9_formula_0 rfl rfl ?_
  refine J_callV (ci := 9) hY dX9_formula_1 mfX9_faultOf miX9_faultOf msX9_faultOf kX9_179 ⟨by decide, rfl⟩ (rk hS) (c_X9_faultOf hZ hS hL hL30 rfl) rfl (by decide) rfl rfl (Nat.le_of_ble_eq_true rfl) (Nat.le_refl _) (Nat.le_refl _) (fun r1 μ1 hq1 => ?_)
  obtain ⟨rfl, S, rfl, hz, hPk⟩ := hq1
  refine J_iconst (v := -1) hT dX9_formula_4 rfl ?_
  refine J_icmp_ne (tgt := 12) hT dX9_formula_5 (by decide) (fun _ => ?_) (fun q => absurd q (hf))
  refine J_iconst (v := 0) hT dX9_formula_12 rfl ?_
  refine S_istore2 hT dX9_formula_13 rfl rfl ?_
  refine J_aload_n (i := 0) hT dX9_formula_14 rfl rfl ?_
  refine J_iload_n (i := 1) hT dX9_formula_15 rfl rfl ?_
  refine R_callS1 hY dX9_formula_16 mfX9_isCell mtX9_isCell kX9_286 (c_X9_isCell hZ) rfl (by decide) rfl rfl (Nat.le_of_ble_eq_true rfl) (Nat.le_refl _) (Nat.le_refl _) ?_
  refine J_topil (cell1 hc) ?_
  refine J_iload_n (i := 2) hT dX9_formula_19 rfl rfl ?_
  refine J_iload_n (i := 2) hT dX9_formula_20 rfl rfl ?_
  refine J_if_eq (tgt := 50) hT dX9_formula_21 (by decide) (fun _ => ?_) (fun q => absurd (rfl) q)
  refine J_iconst (v := 0) hT dX9_formula_50 rfl ?_
  refine R_callV1 (ci := 9) hY dX9_formula_51 mfX9_goes miX9_goes msX9_goes kX9_150 ⟨by decide, rfl⟩ (rk hS) (c_X9_goes hZ hS) rfl (by decide) rfl rfl (Nat.le_of_ble_eq_true rfl) (Nat.le_refl _) (Nat.le_refl _) ?_
  rw [g10]
  refine J_topil (z20) ?_
  refine J_if_ne (tgt := 59) hT dX9_formula_54 (by decide) (fun q => absurd (rfl) q) (fun _ => ?_)
  refine J_iconst (v := 0) hT dX9_formula_57 rfl ?_
  exact J_iret hT dX9_formula_58 rfl rfl (⟨rfl, S, hz, rfl⟩) (Nat.le_refl _) (Nat.le_refl _)

set_option maxRecDepth 100000 in
set_option maxHeartbeats 4000000 in
theorem c_X9_formula_no3 {l : Launch} {Z : zZ} (hZ : zSt l Z) {μ : zMem} {σ : Nat → Nat → Int32} {π : Nat → Nat → Option Nat} {g : Nat → Nat → Int64} (hS : zRef μ π) {n c L : Nat} (hV : RV n σ) (hc : c < 12) (hL : σ 67 1 = nI L) (hL30 : L ≤ 30) (hf : fltI (rdF σ L) L = -1) (hh : ∀ S, zpf σ S → PM S (rdK (rdF σ L)).1 [] → bt (belF S false (whP S (rdK (rdF σ L)).1.length)) c = true) : zCt l Z mX9_formula 8 0 0 [.ref 67, .int (nI c)] (zA4 μ σ π g) (fun r μ' => r = some (.int 0) ∧ ∃ S, zpf σ S ∧ μ' = zA4 μ (zu S 67 45 3) π g) := by
  refine zCt_of hZ mpX9_formula (Nat.le_of_ble_eq_true rfl) (L := [some (.ref 67), some (.int (nI c)), none, none]) rfl (fun τ hY => ?_)
  have hT := hY.1
  have hnq : ∀ q, rdF σ L = .inl q → q ≤ 30 := fun q h => rnF_le hL30 31 h
  obtain ⟨ok1, ok2, ok3⟩ := rdF_ok hL30 hf hnq
  refine J_aload_n (i := 0) hT dX9_formula_0 rfl rfl ?_
  refine J_callV (ci := 9) hY dX9_formula_1 mfX9_faultOf miX9_faultOf msX9_faultOf kX9_179 ⟨by decide, rfl⟩ (rk hS) (c_X9_faultOf hZ hS hL hL30 rfl) rfl (by decide) rfl rfl (Nat.le_of_ble_eq_true rfl) (Nat.le_refl _) (Nat.le_refl _) (fun r1 μ1 hq1 => ?_)
  obtain ⟨rfl, S, rfl, hz, hPk⟩ := hq1
  have hPM := hPk hf
  rw [ok3] at hPM
  have hVS := hV.text hz
  refine J_topil (hf) ?_
  refine J_iconst (v := -1) hT dX9_formula_4 rfl ?_
  refine J_icmp_ne (tgt := 12) hT dX9_formula_5 (by decide) (fun q => absurd (rfl) q) (fun _ => ?_)
  refine J_iconst (v := 1) hT dX9_formula_8 rfl ?_
  refine J_goto (tgt := 13) hT dX9_formula_9 (by decide) ?_
  refine S_istore2 hT dX9_formula_13 rfl rfl ?_
  refine J_aload_n (i := 0) hT dX9_formula_14 rfl rfl ?_
  refine J_iload_n (i := 1) hT dX9_formula_15 rfl rfl ?_
  refine R_callS1 hY dX9_formula_16 mfX9_isCell mtX9_isCell kX9_286 (c_X9_isCell hZ) rfl (by decide) rfl rfl (Nat.le_of_ble_eq_true rfl) (Nat.le_refl _) (Nat.le_refl _) ?_
  refine J_topil (cell1 hc) ?_
  refine J_iload_n (i := 2) hT dX9_formula_19 rfl rfl ?_
  refine J_iload_n (i := 2) hT dX9_formula_20 rfl rfl ?_
  refine J_if_eq (tgt := 50) hT dX9_formula_21 (by decide) (fun q => absurd q (by decide)) (fun _ => ?_)
  refine J_iload_n (i := 1) hT dX9_formula_24 rfl rfl ?_
  refine R_callS1 hY dX9_formula_25 mfX9_isCell mtX9_isCell kX9_286 (c_X9_isCell hZ) rfl (by decide) rfl rfl (Nat.le_of_ble_eq_true rfl) (Nat.le_refl _) (Nat.le_refl _) ?_
  refine J_topil (cell1 hc) ?_
  refine J_if_eq (tgt := 50) hT dX9_formula_28 (by decide) (fun q => absurd q (by decide)) (fun _ => ?_)
  refine J_aload_n (i := 0) hT dX9_formula_31 rfl rfl ?_
  refine J_iload_n (i := 1) hT dX9_formula_32 rfl rfl ?_
  refine R_callV1 (ci := 9) hY dX9_formula_33 mfX9_wouldHang miX9_wouldHang msX9_wouldHang kX9_289 ⟨by decide, rfl⟩ (rk hS) (c_X9_wouldHang hZ hS hc (n0 := (rdK (rdF σ L)).1.length) hPM.2.2.2.2.1 hPM.1) rfl (by decide) rfl rfl (Nat.le_of_ble_eq_true rfl) (Nat.le_refl _) (Nat.le_refl _) ?_
  refine J_topil (zbT (hh S hz hPM)) ?_
  refine J_if_ne (tgt := 50) hT dX9_formula_36 (by decide) (fun _ => ?_) (fun q => absurd q (by decide))
  refine J_iconst (v := 0) hT dX9_formula_50 rfl ?_
  refine R_callV1 (ci := 9) hY dX9_formula_51 mfX9_goes miX9_goes msX9_goes kX9_150 ⟨by decide, rfl⟩ (rk hS) (c_X9_goes hZ hS) rfl (by decide) rfl rfl (Nat.le_of_ble_eq_true rfl) (Nat.le_refl _) (Nat.le_refl _) ?_
  rw [g110]
  refine J_topil (z30) ?_
  refine J_if_ne (tgt := 59) hT dX9_formula_54 (by decide) (fun q => absurd (rfl) q) (fun _ => ?_)
  refine J_iconst (v := 0) hT dX9_formula_57 rfl ?_
  exact J_iret hT dX9_formula_58 rfl rfl (⟨rfl, S, hz, rfl⟩) (Nat.le_refl _) (Nat.le_refl _)

set_option maxRecDepth 100000 in
set_option maxHeartbeats 4000000 in
theorem c_X9_formula_no4 {l : Launch} {Z : zZ} (hZ : zSt l Z) {μ : zMem} {σ : Nat → Nat → Int32} {π : Nat → Nat → Option Nat} {g : Nat → Nat → Int64} (hS : zRef μ π) {n c L : Nat} (hV : RV n σ) (hn : ¬ n < 40) (hc : c < 12) (hL : σ 67 1 = nI L) (hL30 : L ≤ 30) (hf : fltI (rdF σ L) L = -1) (hh : ∀ S, zpf σ S → PM S (rdK (rdF σ L)).1 [] → bt (belF S false (whP S (rdK (rdF σ L)).1.length)) c = false) : zCt l Z mX9_formula 8 0 0 [.ref 67, .int (nI c)] (zA4 μ σ π g) (fun r μ' => r = some (.int 0) ∧ ∃ S, zpf σ S ∧ μ' = zA4 μ (zu S 67 45 3) π g) := by
  refine zCt_of hZ mpX9_formula (Nat.le_of_ble_eq_true rfl) (L := [some (.ref 67), some (.int (nI c)), none, none]) rfl (fun τ hY => ?_)
  have hT := hY.1
  have hnq : ∀ q, rdF σ L = .inl q → q ≤ 30 := fun q h => rnF_le hL30 31 h
  obtain ⟨ok1, ok2, ok3⟩ := rdF_ok hL30 hf hnq
  refine J_aload_n (i := 0) hT dX9_formula_0 rfl rfl ?_
  refine J_callV (ci := 9) hY dX9_formula_1 mfX9_faultOf miX9_faultOf msX9_faultOf kX9_179 ⟨by decide, rfl⟩ (rk hS) (c_X9_faultOf hZ hS hL hL30 rfl) rfl (by decide) rfl rfl (Nat.le_of_ble_eq_true rfl) (Nat.le_refl _) (Nat.le_refl _) (fun r1 μ1 hq1 => ?_)
  obtain ⟨rfl, S, rfl, hz, hPk⟩ := hq1
  have hPM := hPk hf
  rw [ok3] at hPM
  have hVS := hV.text hz
  refine J_topil (hf) ?_
  refine J_iconst (v := -1) hT dX9_formula_4 rfl ?_
  refine J_icmp_ne (tgt := 12) hT dX9_formula_5 (by decide) (fun q => absurd (rfl) q) (fun _ => ?_)
  refine J_iconst (v := 1) hT dX9_formula_8 rfl ?_
  refine J_goto (tgt := 13) hT dX9_formula_9 (by decide) ?_
  refine S_istore2 hT dX9_formula_13 rfl rfl ?_
  refine J_aload_n (i := 0) hT dX9_formula_14 rfl rfl ?_
  refine J_iload_n (i := 1) hT dX9_formula_15 rfl rfl ?_
  refine R_callS1 hY dX9_formula_16 mfX9_isCell mtX9_isCell kX9_286 (c_X9_isCell hZ) rfl (by decide) rfl rfl (Nat.le_of_ble_eq_true rfl) (Nat.le_refl _) (Nat.le_refl _) ?_
  refine J_topil (cell1 hc) ?_
  refine J_iload_n (i := 2) hT dX9_formula_19 rfl rfl ?_
  refine J_iload_n (i := 2) hT dX9_formula_20 rfl rfl ?_
  refine J_if_eq (tgt := 50) hT dX9_formula_21 (by decide) (fun q => absurd q (by decide)) (fun _ => ?_)
  refine J_iload_n (i := 1) hT dX9_formula_24 rfl rfl ?_
  refine R_callS1 hY dX9_formula_25 mfX9_isCell mtX9_isCell kX9_286 (c_X9_isCell hZ) rfl (by decide) rfl rfl (Nat.le_of_ble_eq_true rfl) (Nat.le_refl _) (Nat.le_refl _) ?_
  refine J_topil (cell1 hc) ?_
  refine J_if_eq (tgt := 50) hT dX9_formula_28 (by decide) (fun q => absurd q (by decide)) (fun _ => ?_)
  refine J_aload_n (i := 0) hT dX9_formula_31 rfl rfl ?_
  refine J_iload_n (i := 1) hT dX9_formula_32 rfl rfl ?_
  refine R_callV1 (ci := 9) hY dX9_formula_33 mfX9_wouldHang miX9_wouldHang msX9_wouldHang kX9_289 ⟨by decide, rfl⟩ (rk hS) (c_X9_wouldHang hZ hS hc (n0 := (rdK (rdF σ L)).1.length) hPM.2.2.2.2.1 hPM.1) rfl (by decide) rfl rfl (Nat.le_of_ble_eq_true rfl) (Nat.le_refl _) (Nat.le_refl _) ?_
  refine J_topil (zbF (hh S hz hPM)) ?_
  refine J_if_ne (tgt := 50) hT dX9_formula_36 (by decide) (fun q => absurd (rfl) q) (fun _ => ?_)
  refine J_aload_n (i := 0) hT dX9_formula_39 rfl rfl ?_
  refine R_callV1 (ci := 9) hY dX9_formula_40 mfX9_hasRoom miX9_hasRoom msX9_hasRoom kX9_292 ⟨by decide, rfl⟩ (rk hS) (c_X9_hasRoom hZ hS) rfl (by decide) rfl rfl (Nat.le_of_ble_eq_true rfl) (Nat.le_refl _) (Nat.le_refl _) ?_
  refine J_topil ((hr0 hVS.2.1 hn hVS.1)) ?_
  refine J_if_eq (tgt := 50) hT dX9_formula_43 (by decide) (fun _ => ?_) (fun q => absurd (rfl) q)
  refine J_iconst (v := 0) hT dX9_formula_50 rfl ?_
  refine R_callV1 (ci := 9) hY dX9_formula_51 mfX9_goes miX9_goes msX9_goes kX9_150 ⟨by decide, rfl⟩ (rk hS) (c_X9_goes hZ hS) rfl (by decide) rfl rfl (Nat.le_of_ble_eq_true rfl) (Nat.le_refl _) (Nat.le_refl _) ?_
  rw [g110]
  refine J_topil (z30) ?_
  refine J_if_ne (tgt := 59) hT dX9_formula_54 (by decide) (fun q => absurd (rfl) q) (fun _ => ?_)
  refine J_iconst (v := 0) hT dX9_formula_57 rfl ?_
  exact J_iret hT dX9_formula_58 rfl rfl (⟨rfl, S, hz, rfl⟩) (Nat.le_refl _) (Nat.le_refl _)
