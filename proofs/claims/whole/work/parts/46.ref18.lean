set_option maxRecDepth 100000 in
set_option maxHeartbeats 4000000 in
theorem c_X9_demand_ok {l : Launch} {Z : zZ} (hZ : zSt l Z) {μ : zMem} {σ : Nat → Nat → Int32} {π : Nat → Nat → Option Nat} {g : Nat → Nat → Int64} (hS : zRef μ π) {n : Nat} (hn : n < 40) (hV : RV n σ) {c : Nat} (hc : c < 5) {v w : Int32} (hv : (decide (0 ≤ v) && decide (v ≤ 1000)) = true) (hw : (decide (0 ≤ w) && decide (w ≤ 10)) = true) : zCt l Z mX9_demand 8 0 0 [.ref 67, .int (nI c), .int v, .int w] (zA4 μ σ π g) (fun r μ' => r = some (.int (nI (doF (kpS (zu σ 67 45 0) n 6 (nI c) v w) n).2)) ∧ ∃ g', μ' = zA4 μ ((doF (kpS (zu σ 67 45 0) n 6 (nI c) v w) n).1) π g' ∧ zge g g') := by
  refine zCt_of hZ mpX9_demand (Nat.le_of_ble_eq_true rfl) (L := [some (.ref 67), some (.int (nI c)), some (.int v), some (.int w)]) rfl (fun τ hY => ?_)
  have hT := hY.1
  have hV0 := hV.m 45 0 (by decide)
  have hk := kp_demand hV0 hc v w
  refine J_aload_n (i := 0) hT dX9_demand_0 rfl rfl ?_
  refine J_iload_n (i := 1) hT dX9_demand_1 rfl rfl ?_
  refine R_callS1 hY dX9_demand_2 mfX9_isService mtX9_isService kX9_300 (c_X9_isService hZ) rfl (by decide) rfl rfl (Nat.le_of_ble_eq_true rfl) (Nat.le_refl _) (Nat.le_refl _) ?_
  refine J_topil (svc1 hc) ?_
  refine J_iload_n (i := 2) hT dX9_demand_5 rfl rfl ?_
  refine J_iconst (v := 0) hT dX9_demand_6 rfl ?_
  refine J_sipush (v := 1000) hT dX9_demand_7 rfl ?_
  refine R_callS1 hY dX9_demand_10 mfX9_isWithin mtX9_isWithin kX9_255 (c_X9_isWithin hZ) rfl (by decide) rfl rfl (Nat.le_of_ble_eq_true rfl) (Nat.le_refl _) (Nat.le_refl _) ?_
  refine J_topil (zbT hv) ?_
  refine J_if_eq (tgt := 30) hT dX9_demand_13 (by decide) (fun q => absurd q (by decide)) (fun _ => ?_)
  refine J_iload_n (i := 3) hT dX9_demand_16 rfl rfl ?_
  refine J_iconst (v := 0) hT dX9_demand_17 rfl ?_
  refine J_bipush (v := 10) hT dX9_demand_18 rfl ?_
  refine R_callS1 hY dX9_demand_20 mfX9_isWithin mtX9_isWithin kX9_255 (c_X9_isWithin hZ) rfl (by decide) rfl rfl (Nat.le_of_ble_eq_true rfl) (Nat.le_refl _) (Nat.le_refl _) ?_
  refine J_topil (zbT hw) ?_
  refine J_if_eq (tgt := 30) hT dX9_demand_23 (by decide) (fun q => absurd q (by decide)) (fun _ => ?_)
  refine J_iconst (v := 1) hT dX9_demand_26 rfl ?_
  refine J_goto (tgt := 31) hT dX9_demand_27 (by decide) ?_
  refine J_aload_n (i := 0) hT dX9_demand_31 rfl rfl ?_
  refine R_callV1 (ci := 9) hY dX9_demand_32 mfX9_hasRoom miX9_hasRoom msX9_hasRoom kX9_292 ⟨by decide, rfl⟩ (rk hS) (c_X9_hasRoom hZ hS) rfl (by decide) rfl rfl (Nat.le_of_ble_eq_true rfl) (Nat.le_refl _) (Nat.le_refl _) ?_
  refine J_topil (hr1 hV.2.1 hn) ?_
  refine R_callV1 (ci := 9) hY dX9_demand_35 mfX9_goes miX9_goes msX9_goes kX9_150 ⟨by decide, rfl⟩ (rk hS) (c_X9_goes hZ hS) rfl (by decide) rfl rfl (Nat.le_of_ble_eq_true rfl) (Nat.le_refl _) (Nat.le_refl _) ?_
  rw [g111]
  refine J_topil (z00) ?_
  refine J_if_eq (tgt := 53) hT dX9_demand_38 (by decide) (fun q => absurd q (by decide)) (fun _ => ?_)
  refine J_aload_n (i := 0) hT dX9_demand_41 rfl rfl ?_
  refine J_bipush (v := 6) hT dX9_demand_42 rfl ?_
  refine J_iload_n (i := 1) hT dX9_demand_44 rfl rfl ?_
  refine J_iload_n (i := 2) hT dX9_demand_45 rfl rfl ?_
  refine J_iload_n (i := 3) hT dX9_demand_46 rfl rfl ?_
  refine J_callV (ci := 9) hY dX9_demand_47 mfX9_keeps miX9_keeps msX9_keeps kX9_296 ⟨by decide, rfl⟩ (rk hS) (c_X9_keeps hZ hS (σ := zu σ 67 45 0) hn hV0.2.1 hV0.ri hk.1 hk.2) rfl (by decide) rfl rfl (Nat.le_of_ble_eq_true rfl) (Nat.le_refl _) (Nat.le_refl _) (fun r1 μ1 hq1 => ?_)
  obtain ⟨rfl, g2, rfl, hg2⟩ := hq1
  refine J_goto (tgt := 54) hT dX9_demand_50 (by decide) ?_
  exact J_iret hT dX9_demand_54 rfl rfl (⟨rfl, g2, rfl, hg2⟩) (Nat.le_refl _) (Nat.le_refl _)

set_option maxRecDepth 100000 in
set_option maxHeartbeats 4000000 in
theorem c_X9_demand_no {l : Launch} {Z : zZ} (hZ : zSt l Z) {μ : zMem} {σ : Nat → Nat → Int32} {π : Nat → Nat → Option Nat} {g : Nat → Nat → Int64} (hS : zRef μ π) {a v w : Int32} {t : Int32} (hG : goesN (zbi (decide (0 ≤ a) && decide (a < 5))) (zbi ((decide (0 ≤ v) && decide (v ≤ 1000)) && (decide (0 ≤ w) && decide (w ≤ 10)))) (zbi (decide (σ 67 42 < 40))) = t) (ht : t ≠ 0) : zCt l Z mX9_demand 8 0 0 [.ref 67, .int a, .int v, .int w] (zA4 μ σ π g) (fun r μ' => r = some (.int 0) ∧ μ' = zA4 μ (zu σ 67 45 t) π g) := by
  refine zCt_of hZ mpX9_demand (Nat.le_of_ble_eq_true rfl) (L := [some (.ref 67), some (.int a), some (.int v), some (.int w)]) rfl (fun τ hY => ?_)
  have hT := hY.1
  cases h1 : (decide (0 ≤ v) && decide (v ≤ 1000)) with
  | false =>
    have hG2 : goesN (zbi (decide (0 ≤ a) && decide (a < 5))) 0 (zbi (decide (σ 67 42 < 40))) = t := by rw [← hG, h1]; rfl
    refine J_aload_n (i := 0) hT dX9_demand_0 rfl rfl ?_
    refine J_iload_n (i := 1) hT dX9_demand_1 rfl rfl ?_
    refine R_callS1 hY dX9_demand_2 mfX9_isService mtX9_isService kX9_300 (c_X9_isService hZ) rfl (by decide) rfl rfl (Nat.le_of_ble_eq_true rfl) (Nat.le_refl _) (Nat.le_refl _) ?_
    refine J_iload_n (i := 2) hT dX9_demand_5 rfl rfl ?_
    refine J_iconst (v := 0) hT dX9_demand_6 rfl ?_
    refine J_sipush (v := 1000) hT dX9_demand_7 rfl ?_
    refine R_callS1 hY dX9_demand_10 mfX9_isWithin mtX9_isWithin kX9_255 (c_X9_isWithin hZ) rfl (by decide) rfl rfl (Nat.le_of_ble_eq_true rfl) (Nat.le_refl _) (Nat.le_refl _) ?_
    refine J_topil (zbF h1) ?_
    refine J_if_eq (tgt := 30) hT dX9_demand_13 (by decide) (fun _ => ?_) (fun q => absurd (rfl) q)
    refine J_iconst (v := 0) hT dX9_demand_30 rfl ?_
    refine J_aload_n (i := 0) hT dX9_demand_31 rfl rfl ?_
    refine R_callV1 (ci := 9) hY dX9_demand_32 mfX9_hasRoom miX9_hasRoom msX9_hasRoom kX9_292 ⟨by decide, rfl⟩ (rk hS) (c_X9_hasRoom hZ hS) rfl (by decide) rfl rfl (Nat.le_of_ble_eq_true rfl) (Nat.le_refl _) (Nat.le_refl _) ?_
    refine R_callV1 (ci := 9) hY dX9_demand_35 mfX9_goes miX9_goes msX9_goes kX9_150 ⟨by decide, rfl⟩ (rk hS) (c_X9_goes hZ hS) rfl (by decide) rfl rfl (Nat.le_of_ble_eq_true rfl) (Nat.le_refl _) (Nat.le_refl _) ?_
    rw [hG2]
    refine J_topil (zt0 ht) ?_
    refine J_if_eq (tgt := 53) hT dX9_demand_38 (by decide) (fun _ => ?_) (fun q => absurd (rfl) q)
    refine J_iconst (v := 0) hT dX9_demand_53 rfl ?_
    exact J_iret hT dX9_demand_54 rfl rfl (⟨rfl, rfl⟩) (Nat.le_refl _) (Nat.le_refl _)
  | true =>
    cases h2 : (decide (0 ≤ w) && decide (w ≤ 10)) with
    | false =>
      have hG2 : goesN (zbi (decide (0 ≤ a) && decide (a < 5))) 0 (zbi (decide (σ 67 42 < 40))) = t := by rw [← hG, h1, h2]; rfl
      refine J_aload_n (i := 0) hT dX9_demand_0 rfl rfl ?_
      refine J_iload_n (i := 1) hT dX9_demand_1 rfl rfl ?_
      refine R_callS1 hY dX9_demand_2 mfX9_isService mtX9_isService kX9_300 (c_X9_isService hZ) rfl (by decide) rfl rfl (Nat.le_of_ble_eq_true rfl) (Nat.le_refl _) (Nat.le_refl _) ?_
      refine J_iload_n (i := 2) hT dX9_demand_5 rfl rfl ?_
      refine J_iconst (v := 0) hT dX9_demand_6 rfl ?_
      refine J_sipush (v := 1000) hT dX9_demand_7 rfl ?_
      refine R_callS1 hY dX9_demand_10 mfX9_isWithin mtX9_isWithin kX9_255 (c_X9_isWithin hZ) rfl (by decide) rfl rfl (Nat.le_of_ble_eq_true rfl) (Nat.le_refl _) (Nat.le_refl _) ?_
      refine J_topil (zbT h1) ?_
      refine J_if_eq (tgt := 30) hT dX9_demand_13 (by decide) (fun q => absurd q (by decide)) (fun _ => ?_)
      refine J_iload_n (i := 3) hT dX9_demand_16 rfl rfl ?_
      refine J_iconst (v := 0) hT dX9_demand_17 rfl ?_
      refine J_bipush (v := 10) hT dX9_demand_18 rfl ?_
      refine R_callS1 hY dX9_demand_20 mfX9_isWithin mtX9_isWithin kX9_255 (c_X9_isWithin hZ) rfl (by decide) rfl rfl (Nat.le_of_ble_eq_true rfl) (Nat.le_refl _) (Nat.le_refl _) ?_
      refine J_topil (zbF h2) ?_
      refine J_if_eq (tgt := 30) hT dX9_demand_23 (by decide) (fun _ => ?_) (fun q => absurd (rfl) q)
      refine J_iconst (v := 0) hT dX9_demand_30 rfl ?_
      refine J_aload_n (i := 0) hT dX9_demand_31 rfl rfl ?_
      refine R_callV1 (ci := 9) hY dX9_demand_32 mfX9_hasRoom miX9_hasRoom msX9_hasRoom kX9_292 ⟨by decide, rfl⟩ (rk hS) (c_X9_hasRoom hZ hS) rfl (by decide) rfl rfl (Nat.le_of_ble_eq_true rfl) (Nat.le_refl _) (Nat.le_refl _) ?_
      refine R_callV1 (ci := 9) hY dX9_demand_35 mfX9_goes miX9_goes msX9_goes kX9_150 ⟨by decide, rfl⟩ (rk hS) (c_X9_goes hZ hS) rfl (by decide) rfl rfl (Nat.le_of_ble_eq_true rfl) (Nat.le_refl _) (Nat.le_refl _) ?_
      rw [hG2]
      refine J_topil (zt0 ht) ?_
      refine J_if_eq (tgt := 53) hT dX9_demand_38 (by decide) (fun _ => ?_) (fun q => absurd (rfl) q)
      refine J_iconst (v := 0) hT dX9_demand_53 rfl ?_
      exact J_iret hT dX9_demand_54 rfl rfl (⟨rfl, rfl⟩) (Nat.le_refl _) (Nat.le_refl _)
    | true =>
      have hG2 : goesN (zbi (decide (0 ≤ a) && decide (a < 5))) 1 (zbi (decide (σ 67 42 < 40))) = t := by rw [← hG, h1, h2]; rfl
      refine J_aload_n (i := 0) hT dX9_demand_0 rfl rfl ?_
      refine J_iload_n (i := 1) hT dX9_demand_1 rfl rfl ?_
      refine R_callS1 hY dX9_demand_2 mfX9_isService mtX9_isService kX9_300 (c_X9_isService hZ) rfl (by decide) rfl rfl (Nat.le_of_ble_eq_true rfl) (Nat.le_refl _) (Nat.le_refl _) ?_
      refine J_iload_n (i := 2) hT dX9_demand_5 rfl rfl ?_
      refine J_iconst (v := 0) hT dX9_demand_6 rfl ?_
      refine J_sipush (v := 1000) hT dX9_demand_7 rfl ?_
      refine R_callS1 hY dX9_demand_10 mfX9_isWithin mtX9_isWithin kX9_255 (c_X9_isWithin hZ) rfl (by decide) rfl rfl (Nat.le_of_ble_eq_true rfl) (Nat.le_refl _) (Nat.le_refl _) ?_
      refine J_topil (zbT h1) ?_
      refine J_if_eq (tgt := 30) hT dX9_demand_13 (by decide) (fun q => absurd q (by decide)) (fun _ => ?_)
      refine J_iload_n (i := 3) hT dX9_demand_16 rfl rfl ?_
      refine J_iconst (v := 0) hT dX9_demand_17 rfl ?_
      refine J_bipush (v := 10) hT dX9_demand_18 rfl ?_
      refine R_callS1 hY dX9_demand_20 mfX9_isWithin mtX9_isWithin kX9_255 (c_X9_isWithin hZ) rfl (by decide) rfl rfl (Nat.le_of_ble_eq_true rfl) (Nat.le_refl _) (Nat.le_refl _) ?_
      refine J_topil (zbT h2) ?_
      refine J_if_eq (tgt := 30) hT dX9_demand_23 (by decide) (fun q => absurd q (by decide)) (fun _ => ?_)
      refine J_iconst (v := 1) hT dX9_demand_26 rfl ?_
      refine J_goto (tgt := 31) hT dX9_demand_27 (by decide) ?_
      refine J_aload_n (i := 0) hT dX9_demand_31 rfl rfl ?_
      refine R_callV1 (ci := 9) hY dX9_demand_32 mfX9_hasRoom miX9_hasRoom msX9_hasRoom kX9_292 ⟨by decide, rfl⟩ (rk hS) (c_X9_hasRoom hZ hS) rfl (by decide) rfl rfl (Nat.le_of_ble_eq_true rfl) (Nat.le_refl _) (Nat.le_refl _) ?_
      refine R_callV1 (ci := 9) hY dX9_demand_35 mfX9_goes miX9_goes msX9_goes kX9_150 ⟨by decide, rfl⟩ (rk hS) (c_X9_goes hZ hS) rfl (by decide) rfl rfl (Nat.le_of_ble_eq_true rfl) (Nat.le_refl _) (Nat.le_refl _) ?_
      rw [hG2]
      refine J_topil (zt0 ht) ?_
      refine J_if_eq (tgt := 53) hT dX9_demand_38 (by decide) (fun _ => ?_) (fun q => absurd (rfl) q)
      refine J_iconst (v := 0) hT dX9_demand_53 rfl ?_
      exact J_iret hT dX9_demand_54 rfl rfl (⟨rfl, rfl⟩) (Nat.le_refl _) (Nat.le_refl _)

set_option maxRecDepth 100000 in
set_option maxHeartbeats 4000000 in
theorem c_X9_need_ok1 {l : Launch} {Z : zZ} (hZ : zSt l Z) {μ : zMem} {σ : Nat → Nat → Int32} {π : Nat → Nat → Option Nat} {g : Nat → Nat → Int64} (hS : zRef μ π) {n : Nat} (hn : n < 40) (hV : RV n σ) {c o : Nat} (hc : c < 5) (ho : o < 5) (hne : c ≠ o) {z : Int32} (hz : z ≠ 0) : zCt l Z mX9_need 8 0 0 [.ref 67, .int (nI c), .int (nI o), .int z] (zA4 μ σ π g) (fun r μ' => r = some (.int (nI (doF (kpS (zu σ 67 45 0) n 7 (nI c) (nI o) 1) n).2)) ∧ ∃ g', μ' = zA4 μ ((doF (kpS (zu σ 67 45 0) n 7 (nI c) (nI o) 1) n).1) π g' ∧ zge g g') := by
  refine zCt_of hZ mpX9_need (Nat.le_of_ble_eq_true rfl) (L := [some (.ref 67), some (.int (nI c)), some (.int (nI o)), some (.int z)]) rfl (fun τ hY => ?_)
  have hT := hY.1
  have hV0 := hV.m 45 0 (by decide)
  have hk := kp_need hV0 hc (nI o) 1
  refine J_aload_n (i := 0) hT dX9_need_0 rfl rfl ?_
  refine J_iload_n (i := 1) hT dX9_need_1 rfl rfl ?_
  refine R_callS1 hY dX9_need_2 mfX9_isService mtX9_isService kX9_300 (c_X9_isService hZ) rfl (by decide) rfl rfl (Nat.le_of_ble_eq_true rfl) (Nat.le_refl _) (Nat.le_refl _) ?_
  refine J_topil (svc1 hc) ?_
  refine J_if_eq (tgt := 19) hT dX9_need_5 (by decide) (fun q => absurd q (by decide)) (fun _ => ?_)
  refine J_iload_n (i := 2) hT dX9_need_8 rfl rfl ?_
  refine R_callS1 hY dX9_need_9 mfX9_isService mtX9_isService kX9_300 (c_X9_isService hZ) rfl (by decide) rfl rfl (Nat.le_of_ble_eq_true rfl) (Nat.le_refl _) (Nat.le_refl _) ?_
  refine J_topil (svc1 ho) ?_
  refine J_if_eq (tgt := 19) hT dX9_need_12 (by decide) (fun q => absurd q (by decide)) (fun _ => ?_)
  refine J_iconst (v := 1) hT dX9_need_15 rfl ?_
  refine J_goto (tgt := 20) hT dX9_need_16 (by decide) ?_
  refine J_iload_n (i := 1) hT dX9_need_20 rfl rfl ?_
  refine J_iload_n (i := 2) hT dX9_need_21 rfl rfl ?_
  refine J_icmp_eq (tgt := 29) hT dX9_need_22 (by decide) (fun q => absurd q (fun q => hne ((nI_eq (by omega) (by omega)).mp q))) (fun _ => ?_)
  refine J_iconst (v := 1) hT dX9_need_25 rfl ?_
  refine J_goto (tgt := 30) hT dX9_need_26 (by decide) ?_
  refine J_aload_n (i := 0) hT dX9_need_30 rfl rfl ?_
  refine R_callV1 (ci := 9) hY dX9_need_31 mfX9_hasRoom miX9_hasRoom msX9_hasRoom kX9_292 ⟨by decide, rfl⟩ (rk hS) (c_X9_hasRoom hZ hS) rfl (by decide) rfl rfl (Nat.le_of_ble_eq_true rfl) (Nat.le_refl _) (Nat.le_refl _) ?_
  refine J_topil (hr1 hV.2.1 hn) ?_
  refine R_callV1 (ci := 9) hY dX9_need_34 mfX9_goes miX9_goes msX9_goes kX9_150 ⟨by decide, rfl⟩ (rk hS) (c_X9_goes hZ hS) rfl (by decide) rfl rfl (Nat.le_of_ble_eq_true rfl) (Nat.le_refl _) (Nat.le_refl _) ?_
  rw [g111]
  refine J_topil (z00) ?_
  refine J_if_eq (tgt := 60) hT dX9_need_37 (by decide) (fun q => absurd q (by decide)) (fun _ => ?_)
  refine J_aload_n (i := 0) hT dX9_need_40 rfl rfl ?_
  refine J_bipush (v := 7) hT dX9_need_41 rfl ?_
  refine J_iload_n (i := 1) hT dX9_need_43 rfl rfl ?_
  refine J_iload_n (i := 2) hT dX9_need_44 rfl rfl ?_
  refine J_iload_n (i := 3) hT dX9_need_45 rfl rfl ?_
  refine J_if_eq (tgt := 53) hT dX9_need_46 (by decide) (fun q => absurd q (hz)) (fun _ => ?_)
  refine J_iconst (v := 1) hT dX9_need_49 rfl ?_
  refine J_goto (tgt := 54) hT dX9_need_50 (by decide) ?_
  refine J_callV (ci := 9) hY dX9_need_54 mfX9_keeps miX9_keeps msX9_keeps kX9_296 ⟨by decide, rfl⟩ (rk hS) (c_X9_keeps hZ hS (σ := zu σ 67 45 0) hn hV0.2.1 hV0.ri hk.1 hk.2) rfl (by decide) rfl rfl (Nat.le_of_ble_eq_true rfl) (Nat.le_refl _) (Nat.le_refl _) (fun r1 μ1 hq1 => ?_)
  obtain ⟨rfl, g2, rfl, hg2⟩ := hq1
  refine J_goto (tgt := 61) hT dX9_need_57 (by decide) ?_
  exact J_iret hT dX9_need_61 rfl rfl (⟨rfl, g2, rfl, hg2⟩) (Nat.le_refl _) (Nat.le_refl _)

set_option maxRecDepth 100000 in
set_option maxHeartbeats 4000000 in
theorem c_X9_need_ok0 {l : Launch} {Z : zZ} (hZ : zSt l Z) {μ : zMem} {σ : Nat → Nat → Int32} {π : Nat → Nat → Option Nat} {g : Nat → Nat → Int64} (hS : zRef μ π) {n : Nat} (hn : n < 40) (hV : RV n σ) {c o : Nat} (hc : c < 5) (ho : o < 5) (hne : c ≠ o) {z : Int32} (hz : z = 0) : zCt l Z mX9_need 8 0 0 [.ref 67, .int (nI c), .int (nI o), .int z] (zA4 μ σ π g) (fun r μ' => r = some (.int (nI (doF (kpS (zu σ 67 45 0) n 7 (nI c) (nI o) 0) n).2)) ∧ ∃ g', μ' = zA4 μ ((doF (kpS (zu σ 67 45 0) n 7 (nI c) (nI o) 0) n).1) π g' ∧ zge g g') := by
  refine zCt_of hZ mpX9_need (Nat.le_of_ble_eq_true rfl) (L := [some (.ref 67), some (.int (nI c)), some (.int (nI o)), some (.int z)]) rfl (fun τ hY => ?_)
  have hT := hY.1
  have hV0 := hV.m 45 0 (by decide)
  have hk := kp_need hV0 hc (nI o) 0
  refine J_aload_n (i := 0) hT dX9_need_0 rfl rfl ?_
  refine J_iload_n (i := 1) hT dX9_need_1 rfl rfl ?_
  refine R_callS1 hY dX9_need_2 mfX9_isService mtX9_isService kX9_300 (c_X9_isService hZ) rfl (by decide) rfl rfl (Nat.le_of_ble_eq_true rfl) (Nat.le_refl _) (Nat.le_refl _) ?_
  refine J_topil (svc1 hc) ?_
  refine J_if_eq (tgt := 19) hT dX9_need_5 (by decide) (fun q => absurd q (by decide)) (fun _ => ?_)
  refine J_iload_n (i := 2) hT dX9_need_8 rfl rfl ?_
  refine R_callS1 hY dX9_need_9 mfX9_isService mtX9_isService kX9_300 (c_X9_isService hZ) rfl (by decide) rfl rfl (Nat.le_of_ble_eq_true rfl) (Nat.le_refl _) (Nat.le_refl _) ?_
  refine J_topil (svc1 ho) ?_
  refine J_if_eq (tgt := 19) hT dX9_need_12 (by decide) (fun q => absurd q (by decide)) (fun _ => ?_)
  refine J_iconst (v := 1) hT dX9_need_15 rfl ?_
  refine J_goto (tgt := 20) hT dX9_need_16 (by decide) ?_
  refine J_iload_n (i := 1) hT dX9_need_20 rfl rfl ?_
  refine J_iload_n (i := 2) hT dX9_need_21 rfl rfl ?_
  refine J_icmp_eq (tgt := 29) hT dX9_need_22 (by decide) (fun q => absurd q (fun q => hne ((nI_eq (by omega) (by omega)).mp q))) (fun _ => ?_)
  refine J_iconst (v := 1) hT dX9_need_25 rfl ?_
  refine J_goto (tgt := 30) hT dX9_need_26 (by decide) ?_
  refine J_aload_n (i := 0) hT dX9_need_30 rfl rfl ?_
  refine R_callV1 (ci := 9) hY dX9_need_31 mfX9_hasRoom miX9_hasRoom msX9_hasRoom kX9_292 ⟨by decide, rfl⟩ (rk hS) (c_X9_hasRoom hZ hS) rfl (by decide) rfl rfl (Nat.le_of_ble_eq_true rfl) (Nat.le_refl _) (Nat.le_refl _) ?_
  refine J_topil (hr1 hV.2.1 hn) ?_
  refine R_callV1 (ci := 9) hY dX9_need_34 mfX9_goes miX9_goes msX9_goes kX9_150 ⟨by decide, rfl⟩ (rk hS) (c_X9_goes hZ hS) rfl (by decide) rfl rfl (Nat.le_of_ble_eq_true rfl) (Nat.le_refl _) (Nat.le_refl _) ?_
  rw [g111]
  refine J_topil (z00) ?_
  refine J_if_eq (tgt := 60) hT dX9_need_37 (by decide) (fun q => absurd q (by decide)) (fun _ => ?_)
  refine J_aload_n (i := 0) hT dX9_need_40 rfl rfl ?_
  refine J_bipush (v := 7) hT dX9_need_41 rfl ?_
  refine J_iload_n (i := 1) hT dX9_need_43 rfl rfl ?_
  refine J_iload_n (i := 2) hT dX9_need_44 rfl rfl ?_
  refine J_iload_n (i := 3) hT dX9_need_45 rfl rfl ?_
  refine J_if_eq (tgt := 53) hT dX9_need_46 (by decide) (fun _ => ?_) (fun q => absurd (hz) q)
  refine J_iconst (v := 0) hT dX9_need_53 rfl ?_
  refine J_callV (ci := 9) hY dX9_need_54 mfX9_keeps miX9_keeps msX9_keeps kX9_296 ⟨by decide, rfl⟩ (rk hS) (c_X9_keeps hZ hS (σ := zu σ 67 45 0) hn hV0.2.1 hV0.ri hk.1 hk.2) rfl (by decide) rfl rfl (Nat.le_of_ble_eq_true rfl) (Nat.le_refl _) (Nat.le_refl _) (fun r1 μ1 hq1 => ?_)
  obtain ⟨rfl, g2, rfl, hg2⟩ := hq1
  refine J_goto (tgt := 61) hT dX9_need_57 (by decide) ?_
  exact J_iret hT dX9_need_61 rfl rfl (⟨rfl, g2, rfl, hg2⟩) (Nat.le_refl _) (Nat.le_refl _)

set_option maxRecDepth 100000 in
set_option maxHeartbeats 4000000 in
theorem c_X9_need_no {l : Launch} {Z : zZ} (hZ : zSt l Z) {μ : zMem} {σ : Nat → Nat → Int32} {π : Nat → Nat → Option Nat} {g : Nat → Nat → Int64} (hS : zRef μ π) {a o z : Int32} {t : Int32} (hG : goesN (zbi (svcB a && svcB o)) (zbi (decide (a ≠ o))) (zbi (decide (σ 67 42 < 40))) = t) (ht : t ≠ 0) : zCt l Z mX9_need 8 0 0 [.ref 67, .int a, .int o, .int z] (zA4 μ σ π g) (fun r μ' => r = some (.int 0) ∧ μ' = zA4 μ (zu σ 67 45 t) π g) := by
  refine zCt_of hZ mpX9_need (Nat.le_of_ble_eq_true rfl) (L := [some (.ref 67), some (.int a), some (.int o), some (.int z)]) rfl (fun τ hY => ?_)
  have hT := hY.1
  cases h1 : svcB a with
  | false =>
    have h0 : zbi (svcB a && svcB o) = 0 := by rw [h1]; rfl
    rw [h0] at hG
    by_cases h3 : a = o
    · have hG2 : goesN 0 0 (zbi (decide (σ 67 42 < 40))) = t := by rw [← hG]; rw [show zbi (decide (a ≠ o)) = 0 from by simp [h3, zbi]]
      refine J_aload_n (i := 0) hT dX9_need_0 rfl rfl ?_
      refine J_iload_n (i := 1) hT dX9_need_1 rfl rfl ?_
      refine R_callS1 hY dX9_need_2 mfX9_isService mtX9_isService kX9_300 (c_X9_isService hZ) rfl (by decide) rfl rfl (Nat.le_of_ble_eq_true rfl) (Nat.le_refl _) (Nat.le_refl _) ?_
      refine J_topil (svc0 h1) ?_
      refine J_if_eq (tgt := 19) hT dX9_need_5 (by decide) (fun _ => ?_) (fun q => absurd (rfl) q)
      refine J_iconst (v := 0) hT dX9_need_19 rfl ?_
      refine J_iload_n (i := 1) hT dX9_need_20 rfl rfl ?_
      refine J_iload_n (i := 2) hT dX9_need_21 rfl rfl ?_
      refine J_icmp_eq (tgt := 29) hT dX9_need_22 (by decide) (fun _ => ?_) (fun q => absurd (h3) q)
      refine J_iconst (v := 0) hT dX9_need_29 rfl ?_
      refine J_aload_n (i := 0) hT dX9_need_30 rfl rfl ?_
      refine R_callV1 (ci := 9) hY dX9_need_31 mfX9_hasRoom miX9_hasRoom msX9_hasRoom kX9_292 ⟨by decide, rfl⟩ (rk hS) (c_X9_hasRoom hZ hS) rfl (by decide) rfl rfl (Nat.le_of_ble_eq_true rfl) (Nat.le_refl _) (Nat.le_refl _) ?_
      refine R_callV1 (ci := 9) hY dX9_need_34 mfX9_goes miX9_goes msX9_goes kX9_150 ⟨by decide, rfl⟩ (rk hS) (c_X9_goes hZ hS) rfl (by decide) rfl rfl (Nat.le_of_ble_eq_true rfl) (Nat.le_refl _) (Nat.le_refl _) ?_
      rw [hG2]
      refine J_topil (zt0 ht) ?_
      refine J_if_eq (tgt := 60) hT dX9_need_37 (by decide) (fun _ => ?_) (fun q => absurd (rfl) q)
      refine J_iconst (v := 0) hT dX9_need_60 rfl ?_
      exact J_iret hT dX9_need_61 rfl rfl (⟨rfl, rfl⟩) (Nat.le_refl _) (Nat.le_refl _)
    · have hG2 : goesN 0 1 (zbi (decide (σ 67 42 < 40))) = t := by rw [← hG]; rw [show zbi (decide (a ≠ o)) = 1 from by simp [h3, zbi]]
      refine J_aload_n (i := 0) hT dX9_need_0 rfl rfl ?_
      refine J_iload_n (i := 1) hT dX9_need_1 rfl rfl ?_
      refine R_callS1 hY dX9_need_2 mfX9_isService mtX9_isService kX9_300 (c_X9_isService hZ) rfl (by decide) rfl rfl (Nat.le_of_ble_eq_true rfl) (Nat.le_refl _) (Nat.le_refl _) ?_
      refine J_topil (svc0 h1) ?_
      refine J_if_eq (tgt := 19) hT dX9_need_5 (by decide) (fun _ => ?_) (fun q => absurd (rfl) q)
      refine J_iconst (v := 0) hT dX9_need_19 rfl ?_
      refine J_iload_n (i := 1) hT dX9_need_20 rfl rfl ?_
      refine J_iload_n (i := 2) hT dX9_need_21 rfl rfl ?_
      refine J_icmp_eq (tgt := 29) hT dX9_need_22 (by decide) (fun q => absurd q (h3)) (fun _ => ?_)
      refine J_iconst (v := 1) hT dX9_need_25 rfl ?_
      refine J_goto (tgt := 30) hT dX9_need_26 (by decide) ?_
      refine J_aload_n (i := 0) hT dX9_need_30 rfl rfl ?_
      refine R_callV1 (ci := 9) hY dX9_need_31 mfX9_hasRoom miX9_hasRoom msX9_hasRoom kX9_292 ⟨by decide, rfl⟩ (rk hS) (c_X9_hasRoom hZ hS) rfl (by decide) rfl rfl (Nat.le_of_ble_eq_true rfl) (Nat.le_refl _) (Nat.le_refl _) ?_
      refine R_callV1 (ci := 9) hY dX9_need_34 mfX9_goes miX9_goes msX9_goes kX9_150 ⟨by decide, rfl⟩ (rk hS) (c_X9_goes hZ hS) rfl (by decide) rfl rfl (Nat.le_of_ble_eq_true rfl) (Nat.le_refl _) (Nat.le_refl _) ?_
      rw [hG2]
      refine J_topil (zt0 ht) ?_
      refine J_if_eq (tgt := 60) hT dX9_need_37 (by decide) (fun _ => ?_) (fun q => absurd (rfl) q)
      refine J_iconst (v := 0) hT dX9_need_60 rfl ?_
      exact J_iret hT dX9_need_61 rfl rfl (⟨rfl, rfl⟩) (Nat.le_refl _) (Nat.le_refl _)
  | true =>
    cases h2 : svcB o with
    | false =>
      have h0 : zbi (svcB a && svcB o) = 0 := by rw [h1, h2]; rfl
      rw [h0] at hG
      by_cases h3 : a = o
      · have hG2 : goesN 0 0 (zbi (decide (σ 67 42 < 40))) = t := by rw [← hG]; rw [show zbi (decide (a ≠ o)) = 0 from by simp [h3, zbi]]
        refine J_aload_n (i := 0) hT dX9_need_0 rfl rfl ?_
        refine J_iload_n (i := 1) hT dX9_need_1 rfl rfl ?_
        refine R_callS1 hY dX9_need_2 mfX9_isService mtX9_isService kX9_300 (c_X9_isService hZ) rfl (by decide) rfl rfl (Nat.le_of_ble_eq_true rfl) (Nat.le_refl _) (Nat.le_refl _) ?_
        refine J_topil (zbT h1) ?_
        refine J_if_eq (tgt := 19) hT dX9_need_5 (by decide) (fun q => absurd q (by decide)) (fun _ => ?_)
        refine J_iload_n (i := 2) hT dX9_need_8 rfl rfl ?_
        refine R_callS1 hY dX9_need_9 mfX9_isService mtX9_isService kX9_300 (c_X9_isService hZ) rfl (by decide) rfl rfl (Nat.le_of_ble_eq_true rfl) (Nat.le_refl _) (Nat.le_refl _) ?_
        refine J_topil (svc0 h2) ?_
        refine J_if_eq (tgt := 19) hT dX9_need_12 (by decide) (fun _ => ?_) (fun q => absurd (rfl) q)
        refine J_iconst (v := 0) hT dX9_need_19 rfl ?_
        refine J_iload_n (i := 1) hT dX9_need_20 rfl rfl ?_
        refine J_iload_n (i := 2) hT dX9_need_21 rfl rfl ?_
        refine J_icmp_eq (tgt := 29) hT dX9_need_22 (by decide) (fun _ => ?_) (fun q => absurd (h3) q)
        refine J_iconst (v := 0) hT dX9_need_29 rfl ?_
        refine J_aload_n (i := 0) hT dX9_need_30 rfl rfl ?_
        refine R_callV1 (ci := 9) hY dX9_need_31 mfX9_hasRoom miX9_hasRoom msX9_hasRoom kX9_292 ⟨by decide, rfl⟩ (rk hS) (c_X9_hasRoom hZ hS) rfl (by decide) rfl rfl (Nat.le_of_ble_eq_true rfl) (Nat.le_refl _) (Nat.le_refl _) ?_
        refine R_callV1 (ci := 9) hY dX9_need_34 mfX9_goes miX9_goes msX9_goes kX9_150 ⟨by decide, rfl⟩ (rk hS) (c_X9_goes hZ hS) rfl (by decide) rfl rfl (Nat.le_of_ble_eq_true rfl) (Nat.le_refl _) (Nat.le_refl _) ?_
        rw [hG2]
        refine J_topil (zt0 ht) ?_
        refine J_if_eq (tgt := 60) hT dX9_need_37 (by decide) (fun _ => ?_) (fun q => absurd (rfl) q)
        refine J_iconst (v := 0) hT dX9_need_60 rfl ?_
        exact J_iret hT dX9_need_61 rfl rfl (⟨rfl, rfl⟩) (Nat.le_refl _) (Nat.le_refl _)
      · have hG2 : goesN 0 1 (zbi (decide (σ 67 42 < 40))) = t := by rw [← hG]; rw [show zbi (decide (a ≠ o)) = 1 from by simp [h3, zbi]]
        refine J_aload_n (i := 0) hT dX9_need_0 rfl rfl ?_
        refine J_iload_n (i := 1) hT dX9_need_1 rfl rfl ?_
        refine R_callS1 hY dX9_need_2 mfX9_isService mtX9_isService kX9_300 (c_X9_isService hZ) rfl (by decide) rfl rfl (Nat.le_of_ble_eq_true rfl) (Nat.le_refl _) (Nat.le_refl _) ?_
        refine J_topil (zbT h1) ?_
        refine J_if_eq (tgt := 19) hT dX9_need_5 (by decide) (fun q => absurd q (by decide)) (fun _ => ?_)
        refine J_iload_n (i := 2) hT dX9_need_8 rfl rfl ?_
        refine R_callS1 hY dX9_need_9 mfX9_isService mtX9_isService kX9_300 (c_X9_isService hZ) rfl (by decide) rfl rfl (Nat.le_of_ble_eq_true rfl) (Nat.le_refl _) (Nat.le_refl _) ?_
        refine J_topil (svc0 h2) ?_
        refine J_if_eq (tgt := 19) hT dX9_need_12 (by decide) (fun _ => ?_) (fun q => absurd (rfl) q)
        refine J_iconst (v := 0) hT dX9_need_19 rfl ?_
        refine J_iload_n (i := 1) hT dX9_need_20 rfl rfl ?_
        refine J_iload_n (i := 2) hT dX9_need_21 rfl rfl ?_
        refine J_icmp_eq (tgt := 29) hT dX9_need_22 (by decide) (fun q => absurd q (h3)) (fun _ => ?_)
        refine J_iconst (v := 1) hT dX9_need_25 rfl ?_
        refine J_goto (tgt := 30) hT dX9_need_26 (by decide) ?_
        refine J_aload_n (i := 0) hT dX9_need_30 rfl rfl ?_
        refine R_callV1 (ci := 9) hY dX9_need_31 mfX9_hasRoom miX9_hasRoom msX9_hasRoom kX9_292 ⟨by decide, rfl⟩ (rk hS) (c_X9_hasRoom hZ hS) rfl (by decide) rfl rfl (Nat.le_of_ble_eq_true rfl) (Nat.le_refl _) (Nat.le_refl _) ?_
        refine R_callV1 (ci := 9) hY dX9_need_34 mfX9_goes miX9_goes msX9_goes kX9_150 ⟨by decide, rfl⟩ (rk hS) (c_X9_goes hZ hS) rfl (by decide) rfl rfl (Nat.le_of_ble_eq_true rfl) (Nat.le_refl _) (Nat.le_refl _) ?_
        rw [hG2]
        refine J_topil (zt0 ht) ?_
        refine J_if_eq (tgt := 60) hT dX9_need_37 (by decide) (fun _ => ?_) (fun q => absurd (rfl) q)
        refine J_iconst (v := 0) hT dX9_need_60 rfl ?_
        exact J_iret hT dX9_need_61 rfl rfl (⟨rfl, rfl⟩) (Nat.le_refl _) (Nat.le_refl _)
    | true =>
      have h0 : zbi (svcB a && svcB o) = 1 := by rw [h1, h2]; rfl
      rw [h0] at hG
      by_cases h3 : a = o
      · have hG2 : goesN 1 0 (zbi (decide (σ 67 42 < 40))) = t := by rw [← hG]; rw [show zbi (decide (a ≠ o)) = 0 from by simp [h3, zbi]]
        refine J_aload_n (i := 0) hT dX9_need_0 rfl rfl ?_
        refine J_iload_n (i := 1) hT dX9_need_1 rfl rfl ?_
        refine R_callS1 hY dX9_need_2 mfX9_isService mtX9_isService kX9_300 (c_X9_isService hZ) rfl (by decide) rfl rfl (Nat.le_of_ble_eq_true rfl) (Nat.le_refl _) (Nat.le_refl _) ?_
        refine J_topil (zbT h1) ?_
        refine J_if_eq (tgt := 19) hT dX9_need_5 (by decide) (fun q => absurd q (by decide)) (fun _ => ?_)
        refine J_iload_n (i := 2) hT dX9_need_8 rfl rfl ?_
        refine R_callS1 hY dX9_need_9 mfX9_isService mtX9_isService kX9_300 (c_X9_isService hZ) rfl (by decide) rfl rfl (Nat.le_of_ble_eq_true rfl) (Nat.le_refl _) (Nat.le_refl _) ?_
        refine J_topil (zbT h2) ?_
        refine J_if_eq (tgt := 19) hT dX9_need_12 (by decide) (fun q => absurd q (by decide)) (fun _ => ?_)
        refine J_iconst (v := 1) hT dX9_need_15 rfl ?_
        refine J_goto (tgt := 20) hT dX9_need_16 (by decide) ?_
        refine J_iload_n (i := 1) hT dX9_need_20 rfl rfl ?_
        refine J_iload_n (i := 2) hT dX9_need_21 rfl rfl ?_
        refine J_icmp_eq (tgt := 29) hT dX9_need_22 (by decide) (fun _ => ?_) (fun q => absurd (h3) q)
        refine J_iconst (v := 0) hT dX9_need_29 rfl ?_
        refine J_aload_n (i := 0) hT dX9_need_30 rfl rfl ?_
        refine R_callV1 (ci := 9) hY dX9_need_31 mfX9_hasRoom miX9_hasRoom msX9_hasRoom kX9_292 ⟨by decide, rfl⟩ (rk hS) (c_X9_hasRoom hZ hS) rfl (by decide) rfl rfl (Nat.le_of_ble_eq_true rfl) (Nat.le_refl _) (Nat.le_refl _) ?_
        refine R_callV1 (ci := 9) hY dX9_need_34 mfX9_goes miX9_goes msX9_goes kX9_150 ⟨by decide, rfl⟩ (rk hS) (c_X9_goes hZ hS) rfl (by decide) rfl rfl (Nat.le_of_ble_eq_true rfl) (Nat.le_refl _) (Nat.le_refl _) ?_
        rw [hG2]
        refine J_topil (zt0 ht) ?_
        refine J_if_eq (tgt := 60) hT dX9_need_37 (by decide) (fun _ => ?_) (fun q => absurd (rfl) q)
        refine J_iconst (v := 0) hT dX9_need_60 rfl ?_
        exact J_iret hT dX9_need_61 rfl rfl (⟨rfl, rfl⟩) (Nat.le_refl _) (Nat.le_refl _)
      · have hG2 : goesN 1 1 (zbi (decide (σ 67 42 < 40))) = t := by rw [← hG]; rw [show zbi (decide (a ≠ o)) = 1 from by simp [h3, zbi]]
        refine J_aload_n (i := 0) hT dX9_need_0 rfl rfl ?_
        refine J_iload_n (i := 1) hT dX9_need_1 rfl rfl ?_
        refine R_callS1 hY dX9_need_2 mfX9_isService mtX9_isService kX9_300 (c_X9_isService hZ) rfl (by decide) rfl rfl (Nat.le_of_ble_eq_true rfl) (Nat.le_refl _) (Nat.le_refl _) ?_
        refine J_topil (zbT h1) ?_
        refine J_if_eq (tgt := 19) hT dX9_need_5 (by decide) (fun q => absurd q (by decide)) (fun _ => ?_)
        refine J_iload_n (i := 2) hT dX9_need_8 rfl rfl ?_
        refine R_callS1 hY dX9_need_9 mfX9_isService mtX9_isService kX9_300 (c_X9_isService hZ) rfl (by decide) rfl rfl (Nat.le_of_ble_eq_true rfl) (Nat.le_refl _) (Nat.le_refl _) ?_
        refine J_topil (zbT h2) ?_
        refine J_if_eq (tgt := 19) hT dX9_need_12 (by decide) (fun q => absurd q (by decide)) (fun _ => ?_)
        refine J_iconst (v := 1) hT dX9_need_15 rfl ?_
        refine J_goto (tgt := 20) hT dX9_need_16 (by decide) ?_
        refine J_iload_n (i := 1) hT dX9_need_20 rfl rfl ?_
        refine J_iload_n (i := 2) hT dX9_need_21 rfl rfl ?_
        refine J_icmp_eq (tgt := 29) hT dX9_need_22 (by decide) (fun q => absurd q (h3)) (fun _ => ?_)
        refine J_iconst (v := 1) hT dX9_need_25 rfl ?_
        refine J_goto (tgt := 30) hT dX9_need_26 (by decide) ?_
        refine J_aload_n (i := 0) hT dX9_need_30 rfl rfl ?_
        refine R_callV1 (ci := 9) hY dX9_need_31 mfX9_hasRoom miX9_hasRoom msX9_hasRoom kX9_292 ⟨by decide, rfl⟩ (rk hS) (c_X9_hasRoom hZ hS) rfl (by decide) rfl rfl (Nat.le_of_ble_eq_true rfl) (Nat.le_refl _) (Nat.le_refl _) ?_
        refine R_callV1 (ci := 9) hY dX9_need_34 mfX9_goes miX9_goes msX9_goes kX9_150 ⟨by decide, rfl⟩ (rk hS) (c_X9_goes hZ hS) rfl (by decide) rfl rfl (Nat.le_of_ble_eq_true rfl) (Nat.le_refl _) (Nat.le_refl _) ?_
        rw [hG2]
        refine J_topil (zt0 ht) ?_
        refine J_if_eq (tgt := 60) hT dX9_need_37 (by decide) (fun _ => ?_) (fun q => absurd (rfl) q)
        refine J_iconst (v := 0) hT dX9_need_60 rfl ?_
        exact J_iret hT dX9_need_61 rfl rfl (⟨rfl, rfl⟩) (Nat.le_refl _) (Nat.le_refl _)

set_option maxRecDepth 100000 in
set_option maxHeartbeats 4000000 in
theorem c_X9_tick_ok {l : Launch} {Z : zZ} (hZ : zSt l Z) {μ : zMem} {σ : Nat → Nat → Int32} {π : Nat → Nat → Option Nat} {g : Nat → Nat → Int64} (hS : zRef μ π) {n : Nat} (hn : n < 40) (hV : RV n σ) {t : Nat} (h50 : t ≤ 50) (hw : (decide (1 ≤ nI t) && decide (nI t ≤ 50)) = true) (hle : σ 67 34 + nI t ≤ 2000) : zCt l Z mX9_tick 8 0 0 [.ref 67, .int (nI t)] (zA4 μ σ π g) (fun r μ' => r = some (.int (nI (doF (kpS (zu σ 67 45 0) n 10 (nI t) 0 0) n).2)) ∧ ∃ g', μ' = zA4 μ ((doF (kpS (zu σ 67 45 0) n 10 (nI t) 0 0) n).1) π g' ∧ zge g g') := by
  refine zCt_of hZ mpX9_tick (Nat.le_of_ble_eq_true rfl) (L := [some (.ref 67), some (.int (nI t)), none]) rfl (fun τ hY => ?_)
  have hT := hY.1
  have hV0 := hV.m 45 0 (by decide)
  have hk := kp_tick hV0 h50
  refine J_iload_n (i := 1) hT dX9_tick_0 rfl rfl ?_
  refine J_iconst (v := 1) hT dX9_tick_1 rfl ?_
  refine J_bipush (v := 50) hT dX9_tick_2 rfl ?_
  refine R_callS1 hY dX9_tick_4 mfX9_isWithin mtX9_isWithin kX9_255 (c_X9_isWithin hZ) rfl (by decide) rfl rfl (Nat.le_of_ble_eq_true rfl) (Nat.le_refl _) (Nat.le_refl _) ?_
  refine J_topil (zbT hw) ?_
  refine S_istore2 hT dX9_tick_7 rfl rfl ?_
  refine J_aload_n (i := 0) hT dX9_tick_8 rfl rfl ?_
  refine J_iload_n (i := 2) hT dX9_tick_9 rfl rfl ?_
  refine J_iload_n (i := 2) hT dX9_tick_10 rfl rfl ?_
  refine J_if_eq (tgt := 37) hT dX9_tick_11 (by decide) (fun q => absurd q (by decide)) (fun _ => ?_)
  refine J_aload_n (i := 0) hT dX9_tick_14 rfl rfl ?_
  refine R_getI hT fX9_218 rfl dX9_tick_15 (rk hS) ?_
  refine J_iload_n (i := 1) hT dX9_tick_18 rfl rfl ?_
  refine J_iadd hT dX9_tick_19 ?_
  refine J_sipush (v := 2000) hT dX9_tick_20 rfl ?_
  refine J_icmp_gt (tgt := 37) hT dX9_tick_23 (by decide) (fun q => absurd q (Int32.not_lt.mpr hle)) (fun _ => ?_)
  refine J_aload_n (i := 0) hT dX9_tick_26 rfl rfl ?_
  refine R_callV1 (ci := 9) hY dX9_tick_27 mfX9_hasRoom miX9_hasRoom msX9_hasRoom kX9_292 ⟨by decide, rfl⟩ (rk hS) (c_X9_hasRoom hZ hS) rfl (by decide) rfl rfl (Nat.le_of_ble_eq_true rfl) (Nat.le_refl _) (Nat.le_refl _) ?_
  refine J_topil (hr1 hV.2.1 hn) ?_
  refine J_if_eq (tgt := 37) hT dX9_tick_30 (by decide) (fun q => absurd q (by decide)) (fun _ => ?_)
  refine J_iconst (v := 1) hT dX9_tick_33 rfl ?_
  refine J_goto (tgt := 38) hT dX9_tick_34 (by decide) ?_
  refine J_iconst (v := 1) hT dX9_tick_38 rfl ?_
  refine R_callV1 (ci := 9) hY dX9_tick_39 mfX9_goes miX9_goes msX9_goes kX9_150 ⟨by decide, rfl⟩ (rk hS) (c_X9_goes hZ hS) rfl (by decide) rfl rfl (Nat.le_of_ble_eq_true rfl) (Nat.le_refl _) (Nat.le_refl _) ?_
  rw [g111]
  refine J_topil (z00) ?_
  refine J_if_eq (tgt := 57) hT dX9_tick_42 (by decide) (fun q => absurd q (by decide)) (fun _ => ?_)
  refine J_aload_n (i := 0) hT dX9_tick_45 rfl rfl ?_
  refine J_bipush (v := 10) hT dX9_tick_46 rfl ?_
  refine J_iload_n (i := 1) hT dX9_tick_48 rfl rfl ?_
  refine J_iconst (v := 0) hT dX9_tick_49 rfl ?_
  refine J_iconst (v := 0) hT dX9_tick_50 rfl ?_
  refine J_callV (ci := 9) hY dX9_tick_51 mfX9_keeps miX9_keeps msX9_keeps kX9_296 ⟨by decide, rfl⟩ (rk hS) (c_X9_keeps hZ hS (σ := zu σ 67 45 0) hn hV0.2.1 hV0.ri hk.1 hk.2) rfl (by decide) rfl rfl (Nat.le_of_ble_eq_true rfl) (Nat.le_refl _) (Nat.le_refl _) (fun r1 μ1 hq1 => ?_)
  obtain ⟨rfl, g2, rfl, hg2⟩ := hq1
  refine J_goto (tgt := 58) hT dX9_tick_54 (by decide) ?_
  exact J_iret hT dX9_tick_58 rfl rfl (⟨rfl, g2, rfl, hg2⟩) (Nat.le_refl _) (Nat.le_refl _)

set_option maxRecDepth 100000 in
set_option maxHeartbeats 4000000 in
theorem c_X9_tick_no1 {l : Launch} {Z : zZ} (hZ : zSt l Z) {μ : zMem} {σ : Nat → Nat → Int32} {π : Nat → Nat → Option Nat} {g : Nat → Nat → Int64} (hS : zRef μ π) {a : Int32} (hb : (decide (1 ≤ a) && decide (a ≤ 50)) = false) : zCt l Z mX9_tick 8 0 0 [.ref 67, .int a] (zA4 μ σ π g) (fun r μ' => r = some (.int 0) ∧ μ' = zA4 μ (zu σ 67 45 1) π g) := by
  refine zCt_of hZ mpX9_tick (Nat.le_of_ble_eq_true rfl) (L := [some (.ref 67), some (.int a), none]) rfl (fun τ hY => ?_)
  have hT := hY.1
  refine J_iload_n (i := 1) hT dX9_tick_0 rfl rfl ?_
  refine J_iconst (v := 1) hT dX9_tick_1 rfl ?_
  refine J_bipush (v := 50) hT dX9_tick_2 rfl ?_
  refine R_callS1 hY dX9_tick_4 mfX9_isWithin mtX9_isWithin kX9_255 (c_X9_isWithin hZ) rfl (by decide) rfl rfl (Nat.le_of_ble_eq_true rfl) (Nat.le_refl _) (Nat.le_refl _) ?_
  refine J_topil (zbF hb) ?_
  refine S_istore2 hT dX9_tick_7 rfl rfl ?_
  refine J_aload_n (i := 0) hT dX9_tick_8 rfl rfl ?_
  refine J_iload_n (i := 2) hT dX9_tick_9 rfl rfl ?_
  refine J_iload_n (i := 2) hT dX9_tick_10 rfl rfl ?_
  refine J_if_eq (tgt := 37) hT dX9_tick_11 (by decide) (fun _ => ?_) (fun q => absurd (rfl) q)
  refine J_iconst (v := 0) hT dX9_tick_37 rfl ?_
  refine J_iconst (v := 1) hT dX9_tick_38 rfl ?_
  refine R_callV1 (ci := 9) hY dX9_tick_39 mfX9_goes miX9_goes msX9_goes kX9_150 ⟨by decide, rfl⟩ (rk hS) (c_X9_goes hZ hS) rfl (by decide) rfl rfl (Nat.le_of_ble_eq_true rfl) (Nat.le_refl _) (Nat.le_refl _) ?_
  rw [g0]
  refine J_topil (z10) ?_
  refine J_if_eq (tgt := 57) hT dX9_tick_42 (by decide) (fun _ => ?_) (fun q => absurd (rfl) q)
  refine J_iconst (v := 0) hT dX9_tick_57 rfl ?_
  exact J_iret hT dX9_tick_58 rfl rfl (⟨rfl, rfl⟩) (Nat.le_refl _) (Nat.le_refl _)

set_option maxRecDepth 100000 in
set_option maxHeartbeats 4000000 in
theorem c_X9_tick_no2 {l : Launch} {Z : zZ} (hZ : zSt l Z) {μ : zMem} {σ : Nat → Nat → Int32} {π : Nat → Nat → Option Nat} {g : Nat → Nat → Int64} (hS : zRef μ π) {n : Nat} (hV : RV n σ) {a : Int32} (hw : (decide (1 ≤ a) && decide (a ≤ 50)) = true) (hb : ¬ (σ 67 34 + a ≤ 2000) ∨ ¬ n < 40) : zCt l Z mX9_tick 8 0 0 [.ref 67, .int a] (zA4 μ σ π g) (fun r μ' => r = some (.int 0) ∧ μ' = zA4 μ (zu σ 67 45 2) π g) := by
  refine zCt_of hZ mpX9_tick (Nat.le_of_ble_eq_true rfl) (L := [some (.ref 67), some (.int a), none]) rfl (fun τ hY => ?_)
  have hT := hY.1
  by_cases h1 : σ 67 34 + a ≤ 2000
  · have h2 := hb.resolve_left (fun q => q h1)
    refine J_iload_n (i := 1) hT dX9_tick_0 rfl rfl ?_
    refine J_iconst (v := 1) hT dX9_tick_1 rfl ?_
    refine J_bipush (v := 50) hT dX9_tick_2 rfl ?_
    refine R_callS1 hY dX9_tick_4 mfX9_isWithin mtX9_isWithin kX9_255 (c_X9_isWithin hZ) rfl (by decide) rfl rfl (Nat.le_of_ble_eq_true rfl) (Nat.le_refl _) (Nat.le_refl _) ?_
    refine J_topil (zbT hw) ?_
    refine S_istore2 hT dX9_tick_7 rfl rfl ?_
    refine J_aload_n (i := 0) hT dX9_tick_8 rfl rfl ?_
    refine J_iload_n (i := 2) hT dX9_tick_9 rfl rfl ?_
    refine J_iload_n (i := 2) hT dX9_tick_10 rfl rfl ?_
    refine J_if_eq (tgt := 37) hT dX9_tick_11 (by decide) (fun q => absurd q (by decide)) (fun _ => ?_)
    refine J_aload_n (i := 0) hT dX9_tick_14 rfl rfl ?_
    refine R_getI hT fX9_218 rfl dX9_tick_15 (rk hS) ?_
    refine J_iload_n (i := 1) hT dX9_tick_18 rfl rfl ?_
    refine J_iadd hT dX9_tick_19 ?_
    refine J_sipush (v := 2000) hT dX9_tick_20 rfl ?_
    refine J_icmp_gt (tgt := 37) hT dX9_tick_23 (by decide) (fun q => absurd q (Int32.not_lt.mpr h1)) (fun _ => ?_)
    refine J_aload_n (i := 0) hT dX9_tick_26 rfl rfl ?_
    refine R_callV1 (ci := 9) hY dX9_tick_27 mfX9_hasRoom miX9_hasRoom msX9_hasRoom kX9_292 ⟨by decide, rfl⟩ (rk hS) (c_X9_hasRoom hZ hS) rfl (by decide) rfl rfl (Nat.le_of_ble_eq_true rfl) (Nat.le_refl _) (Nat.le_refl _) ?_
    refine J_topil (hr0 hV.2.1 h2 hV.1) ?_
    refine J_if_eq (tgt := 37) hT dX9_tick_30 (by decide) (fun _ => ?_) (fun q => absurd (rfl) q)
    refine J_iconst (v := 0) hT dX9_tick_37 rfl ?_
    refine J_iconst (v := 1) hT dX9_tick_38 rfl ?_
    refine R_callV1 (ci := 9) hY dX9_tick_39 mfX9_goes miX9_goes msX9_goes kX9_150 ⟨by decide, rfl⟩ (rk hS) (c_X9_goes hZ hS) rfl (by decide) rfl rfl (Nat.le_of_ble_eq_true rfl) (Nat.le_refl _) (Nat.le_refl _) ?_
    rw [g10]
    refine J_topil (z20) ?_
    refine J_if_eq (tgt := 57) hT dX9_tick_42 (by decide) (fun _ => ?_) (fun q => absurd (rfl) q)
    refine J_iconst (v := 0) hT dX9_tick_57 rfl ?_
    exact J_iret hT dX9_tick_58 rfl rfl (⟨rfl, rfl⟩) (Nat.le_refl _) (Nat.le_refl _)
  · refine J_iload_n (i := 1) hT dX9_tick_0 rfl rfl ?_
    refine J_iconst (v := 1) hT dX9_tick_1 rfl ?_
    refine J_bipush (v := 50) hT dX9_tick_2 rfl ?_
    refine R_callS1 hY dX9_tick_4 mfX9_isWithin mtX9_isWithin kX9_255 (c_X9_isWithin hZ) rfl (by decide) rfl rfl (Nat.le_of_ble_eq_true rfl) (Nat.le_refl _) (Nat.le_refl _) ?_
    refine J_topil (zbT hw) ?_
    refine S_istore2 hT dX9_tick_7 rfl rfl ?_
    refine J_aload_n (i := 0) hT dX9_tick_8 rfl rfl ?_
    refine J_iload_n (i := 2) hT dX9_tick_9 rfl rfl ?_
    refine J_iload_n (i := 2) hT dX9_tick_10 rfl rfl ?_
    refine J_if_eq (tgt := 37) hT dX9_tick_11 (by decide) (fun q => absurd q (by decide)) (fun _ => ?_)
    refine J_aload_n (i := 0) hT dX9_tick_14 rfl rfl ?_
    refine R_getI hT fX9_218 rfl dX9_tick_15 (rk hS) ?_
    refine J_iload_n (i := 1) hT dX9_tick_18 rfl rfl ?_
    refine J_iadd hT dX9_tick_19 ?_
    refine J_sipush (v := 2000) hT dX9_tick_20 rfl ?_
    refine J_icmp_gt (tgt := 37) hT dX9_tick_23 (by decide) (fun _ => ?_) (fun q => absurd (Int32.not_le.mp h1) q)
    refine J_iconst (v := 0) hT dX9_tick_37 rfl ?_
    refine J_iconst (v := 1) hT dX9_tick_38 rfl ?_
    refine R_callV1 (ci := 9) hY dX9_tick_39 mfX9_goes miX9_goes msX9_goes kX9_150 ⟨by decide, rfl⟩ (rk hS) (c_X9_goes hZ hS) rfl (by decide) rfl rfl (Nat.le_of_ble_eq_true rfl) (Nat.le_refl _) (Nat.le_refl _) ?_
    rw [g10]
    refine J_topil (z20) ?_
    refine J_if_eq (tgt := 57) hT dX9_tick_42 (by decide) (fun _ => ?_) (fun q => absurd (rfl) q)
    refine J_iconst (v := 0) hT dX9_tick_57 rfl ?_
    exact J_iret hT dX9_tick_58 rfl rfl (⟨rfl, rfl⟩) (Nat.le_refl _) (Nat.le_refl _)

set_option maxRecDepth 100000 in
set_option maxHeartbeats 4000000 in
theorem c_X9_undo_ok {l : Launch} {Z : zZ} (hZ : zSt l Z) {μ : zMem} {σ : Nat → Nat → Int32} {π : Nat → Nat → Option Nat} {g : Nat → Nat → Int64} (hS : zRef μ π) {n : Nat} (hV : RV (n + 1) σ) : zCt l Z mX9_undo 8 0 0 [.ref 67] (zA4 μ σ π g) (fun r μ' => r = some (.int (nI n)) ∧ ∃ g', μ' = zA4 μ (rpF (zu (zu σ 67 45 0) 67 42 (nI n)) n) π g' ∧ zge g g') := by
  refine zCt_of hZ mpX9_undo (Nat.le_of_ble_eq_true rfl) (L := [some (.ref 67)]) rfl (fun τ hY => ?_)
  have hT := hY.1
  have hW := (hV.m 45 0 (by decide)).rw1
  refine J_aload_n (i := 0) hT dX9_undo_0 rfl rfl ?_
  refine J_aload_n (i := 0) hT dX9_undo_1 rfl rfl ?_
  refine R_getI hT fX9_277 rfl dX9_undo_2 (rk hS) ?_
  refine J_topil (hV.2.1) ?_
  refine J_if_le (tgt := 12) hT dX9_undo_5 (by decide) (fun q => absurd q (Int32.not_le.mpr (nI_lt (a := 0) (b := n + 1) (by omega) (by have := hV.1; omega)))) (fun _ => ?_)
  refine J_iconst (v := 1) hT dX9_undo_8 rfl ?_
  refine J_goto (tgt := 13) hT dX9_undo_9 (by decide) ?_
  refine J_iconst (v := 1) hT dX9_undo_13 rfl ?_
  refine J_iconst (v := 1) hT dX9_undo_14 rfl ?_
  refine R_callV1 (ci := 9) hY dX9_undo_15 mfX9_goes miX9_goes msX9_goes kX9_150 ⟨by decide, rfl⟩ (rk hS) (c_X9_goes hZ hS) rfl (by decide) rfl rfl (Nat.le_of_ble_eq_true rfl) (Nat.le_refl _) (Nat.le_refl _) ?_
  rw [g111]
  refine J_topil (z00) ?_
  refine J_if_ne (tgt := 23) hT dX9_undo_18 (by decide) (fun _ => ?_) (fun q => absurd q (by decide))
  refine J_aload_n (i := 0) hT dX9_undo_23 rfl rfl ?_
  refine J_dup hT dX9_undo_24 rfl ?_
  refine R_getI hT fX9_277 rfl dX9_undo_25 (rk hS) ?_
  refine J_topil ((show zu σ 67 45 0 67 42 = nI (n + 1) by simp [zu, hV.2.1])) ?_
  refine J_iconst (v := 1) hT dX9_undo_28 rfl ?_
  refine J_isub hT dX9_undo_29 ?_
  refine J_topil (nI_pred n) ?_
  refine R_putI hT fX9_277 rfl rfl dX9_undo_30 (rk hS) ?_
  refine J_aload_n (i := 0) hT dX9_undo_33 rfl rfl ?_
  refine J_callV (ci := 9) hY dX9_undo_34 mfX9_replays miX9_replays msX9_replays kX9_303 ⟨by decide, rfl⟩ (rk hS) (c_X9_replays hZ hS (σ := (zu (zu σ 67 45 0) 67 42 (nI n))) hW.1 hW.2.1 hW.2.2.2.1 hW.2.2.1 hW.2.2.2.2) rfl (by decide) rfl rfl (Nat.le_of_ble_eq_true rfl) (Nat.le_refl _) (Nat.le_refl _) (fun r1 μ1 hq1 => ?_)
  obtain ⟨rfl, g2, rfl, hg2⟩ := hq1
  refine J_aload_n (i := 0) hT dX9_undo_37 rfl rfl ?_
  refine R_getI hT fX9_277 rfl dX9_undo_38 (rk hS) ?_
  refine J_topil (((zkf_m (rpF_k (zu (zu σ 67 45 0) 67 42 (nI n)) n) 42 (by decide)).trans (zu_eq _ _ _ _))) ?_
  exact J_iret hT dX9_undo_41 rfl rfl (⟨rfl, g2, rfl, hg2⟩) (Nat.le_refl _) (Nat.le_refl _)

set_option maxRecDepth 100000 in
set_option maxHeartbeats 4000000 in
theorem c_X9_undo_no {l : Launch} {Z : zZ} (hZ : zSt l Z) {μ : zMem} {σ : Nat → Nat → Int32} {π : Nat → Nat → Option Nat} {g : Nat → Nat → Int64} (hS : zRef μ π) (h0 : σ 67 42 = 0) : zCt l Z mX9_undo 8 0 0 [.ref 67] (zA4 μ σ π g) (fun r μ' => r = some (.int 0) ∧ μ' = zA4 μ (zu σ 67 45 1) π g) := by
  refine zCt_of hZ mpX9_undo (Nat.le_of_ble_eq_true rfl) (L := [some (.ref 67)]) rfl (fun τ hY => ?_)
  have hT := hY.1
  refine J_aload_n (i := 0) hT dX9_undo_0 rfl rfl ?_
  refine J_aload_n (i := 0) hT dX9_undo_1 rfl rfl ?_
  refine R_getI hT fX9_277 rfl dX9_undo_2 (rk hS) ?_
  refine J_topil (h0) ?_
  refine J_if_le (tgt := 12) hT dX9_undo_5 (by decide) (fun _ => ?_) (fun q => absurd (by decide) q)
  refine J_iconst (v := 0) hT dX9_undo_12 rfl ?_
  refine J_iconst (v := 1) hT dX9_undo_13 rfl ?_
  refine J_iconst (v := 1) hT dX9_undo_14 rfl ?_
  refine R_callV1 (ci := 9) hY dX9_undo_15 mfX9_goes miX9_goes msX9_goes kX9_150 ⟨by decide, rfl⟩ (rk hS) (c_X9_goes hZ hS) rfl (by decide) rfl rfl (Nat.le_of_ble_eq_true rfl) (Nat.le_refl _) (Nat.le_refl _) ?_
  rw [g011]
  refine J_topil (z10) ?_
  refine J_if_ne (tgt := 23) hT dX9_undo_18 (by decide) (fun q => absurd (rfl) q) (fun _ => ?_)
  refine J_iconst (v := 0) hT dX9_undo_21 rfl ?_
  exact J_iret hT dX9_undo_22 rfl rfl (⟨rfl, rfl⟩) (Nat.le_refl _) (Nat.le_refl _)
