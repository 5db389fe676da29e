
theorem g0 (b c : Int32) : goesN 0 b c = 1 := rfl
theorem g10 (c : Int32) : goesN 1 0 c = 2 := rfl
theorem z20 : zbi (decide ((2 : Int32) = 0)) = 0 := rfl
theorem zbT {b : Bool} (h : b = true) : zbi b = 1 := by rw [h]; rfl
theorem zbF {b : Bool} (h : b = false) : zbi b = 0 := by rw [h]; rfl

set_option maxRecDepth 100000 in
set_option maxHeartbeats 4000000 in
theorem c_X9_hold_ok {l : Launch} {Z : zZ} (hZ : zSt l Z) {μ : zMem} {σ : Nat → Nat → Int32} {π : Nat → Nat → Option Nat} {g : Nat → Nat → Int64} (hS : zRef μ π) {n : Nat} (hn : n < 40) (hV : RV n σ) {c : Nat} (hc : c < 12) {v : Int32} (hv : (decide (-1000 ≤ v) && decide (v ≤ 1000)) = true) : zCt l Z mX9_hold 8 0 0 [.ref 67, .int (nI c), .int v] (zA4 μ σ π g) (fun r μ' => r = some (.int (nI (doF (kpS (zu σ 67 45 0) n 1 (nI c) v 0) n).2)) ∧ ∃ g', μ' = zA4 μ ((doF (kpS (zu σ 67 45 0) n 1 (nI c) v 0) n).1) π g' ∧ zge g g') := by
  refine zCt_of hZ mpX9_hold (Nat.le_of_ble_eq_true rfl) (L := [some (.ref 67), some (.int (nI c)), some (.int v)]) rfl (fun τ hY => ?_)
  have hT := hY.1
  have hV0 := hV.m 45 0 (by decide)
  have hk := kp_hold hV0 hc v
  refine J_aload_n (i := 0) hT dX9_hold_0 rfl rfl ?_
  refine J_iload_n (i := 1) hT dX9_hold_1 rfl rfl ?_
  refine R_callS1 hY dX9_hold_2 mfX9_isCell mtX9_isCell kX9_286 (c_X9_isCell hZ) rfl (by decide) rfl rfl (Nat.le_of_ble_eq_true rfl) (Nat.le_refl _) (Nat.le_refl _) ?_
  refine J_topil (cell1 hc) ?_
  refine J_iload_n (i := 2) hT dX9_hold_5 rfl rfl ?_
  refine J_sipush (v := -1000) hT dX9_hold_6 rfl ?_
  refine J_sipush (v := 1000) hT dX9_hold_9 rfl ?_
  refine R_callS1 hY dX9_hold_12 mfX9_isWithin mtX9_isWithin kX9_255 (c_X9_isWithin hZ) rfl (by decide) rfl rfl (Nat.le_of_ble_eq_true rfl) (Nat.le_refl _) (Nat.le_refl _) ?_
  refine J_topil (zbT hv) ?_
  refine J_aload_n (i := 0) hT dX9_hold_15 rfl rfl ?_
  refine R_callV1 (ci := 9) hY dX9_hold_16 mfX9_hasRoom miX9_hasRoom msX9_hasRoom kX9_292 ⟨by decide, rfl⟩ (rk hS) (c_X9_hasRoom hZ hS) rfl (by decide) rfl rfl (Nat.le_of_ble_eq_true rfl) (Nat.le_refl _) (Nat.le_refl _) ?_
  refine J_topil (hr1 hV.2.1 hn) ?_
  refine R_callV1 (ci := 9) hY dX9_hold_19 mfX9_goes miX9_goes msX9_goes kX9_150 ⟨by decide, rfl⟩ (rk hS) (c_X9_goes hZ hS) rfl (by decide) rfl rfl (Nat.le_of_ble_eq_true rfl) (Nat.le_refl _) (Nat.le_refl _) ?_
  rw [g111]
  refine J_topil (z00) ?_
  refine J_if_eq (tgt := 36) hT dX9_hold_22 (by decide) (fun q => absurd q (by decide)) (fun _ => ?_)
  refine J_aload_n (i := 0) hT dX9_hold_25 rfl rfl ?_
  refine J_iconst (v := 1) hT dX9_hold_26 rfl ?_
  refine J_iload_n (i := 1) hT dX9_hold_27 rfl rfl ?_
  refine J_iload_n (i := 2) hT dX9_hold_28 rfl rfl ?_
  refine J_iconst (v := 0) hT dX9_hold_29 rfl ?_
  refine J_callV (ci := 9) hY dX9_hold_30 mfX9_keeps miX9_keeps msX9_keeps kX9_296 ⟨by decide, rfl⟩ (rk hS) (c_X9_keeps hZ hS (σ := zu σ 67 45 0) hn hV0.2.1 hV0.ri hk.1 hk.2) rfl (by decide) rfl rfl (Nat.le_of_ble_eq_true rfl) (Nat.le_refl _) (Nat.le_refl _) (fun r1 μ1 hq1 => ?_)
  obtain ⟨rfl, g2, rfl, hg2⟩ := hq1
  refine J_goto (tgt := 37) hT dX9_hold_33 (by decide) ?_
  exact J_iret hT dX9_hold_37 rfl rfl (⟨rfl, g2, rfl, hg2⟩) (Nat.le_refl _) (Nat.le_refl _)

set_option maxRecDepth 100000 in
set_option maxHeartbeats 4000000 in
theorem c_X9_hold_no {l : Launch} {Z : zZ} (hZ : zSt l Z) {μ : zMem} {σ : Nat → Nat → Int32} {π : Nat → Nat → Option Nat} {g : Nat → Nat → Int64} (hS : zRef μ π) {a v : Int32} {t : Int32} (hG : goesN (zbi (decide (0 ≤ a) && decide (a < 12))) (zbi (decide (-1000 ≤ v) && decide (v ≤ 1000))) (zbi (decide (σ 67 42 < 40))) = t) (ht : t ≠ 0) : zCt l Z mX9_hold 8 0 0 [.ref 67, .int a, .int v] (zA4 μ σ π g) (fun r μ' => r = some (.int 0) ∧ μ' = zA4 μ (zu σ 67 45 t) π g) := by
  refine zCt_of hZ mpX9_hold (Nat.le_of_ble_eq_true rfl) (L := [some (.ref 67), some (.int a), some (.int v)]) rfl (fun τ hY => ?_)
  have hT := hY.1
  refine J_aload_n (i := 0) hT dX9_hold_0 rfl rfl ?_
  refine J_iload_n (i := 1) hT dX9_hold_1 rfl rfl ?_
  refine R_callS1 hY dX9_hold_2 mfX9_isCell mtX9_isCell kX9_286 (c_X9_isCell hZ) rfl (by decide) rfl rfl (Nat.le_of_ble_eq_true rfl) (Nat.le_refl _) (Nat.le_refl _) ?_
  refine J_iload_n (i := 2) hT dX9_hold_5 rfl rfl ?_
  refine J_sipush (v := -1000) hT dX9_hold_6 rfl ?_
  refine J_sipush (v := 1000) hT dX9_hold_9 rfl ?_
  refine R_callS1 hY dX9_hold_12 mfX9_isWithin mtX9_isWithin kX9_255 (c_X9_isWithin hZ) rfl (by decide) rfl rfl (Nat.le_of_ble_eq_true rfl) (Nat.le_refl _) (Nat.le_refl _) ?_
  refine J_aload_n (i := 0) hT dX9_hold_15 rfl rfl ?_
  refine R_callV1 (ci := 9) hY dX9_hold_16 mfX9_hasRoom miX9_hasRoom msX9_hasRoom kX9_292 ⟨by decide, rfl⟩ (rk hS) (c_X9_hasRoom hZ hS) rfl (by decide) rfl rfl (Nat.le_of_ble_eq_true rfl) (Nat.le_refl _) (Nat.le_refl _) ?_
  refine R_callV1 (ci := 9) hY dX9_hold_19 mfX9_goes miX9_goes msX9_goes kX9_150 ⟨by decide, rfl⟩ (rk hS) (c_X9_goes hZ hS) rfl (by decide) rfl rfl (Nat.le_of_ble_eq_true rfl) (Nat.le_refl _) (Nat.le_refl _) ?_
  rw [hG]
  refine J_topil (zt0 ht) ?_
  refine J_if_eq (tgt := 36) hT dX9_hold_22 (by decide) (fun _ => ?_) (fun q => absurd (rfl) q)
  refine J_iconst (v := 0) hT dX9_hold_36 rfl ?_
  exact J_iret hT dX9_hold_37 rfl rfl (⟨rfl, rfl⟩) (Nat.le_refl _) (Nat.le_refl _)

set_option maxRecDepth 100000 in
set_option maxHeartbeats 4000000 in
theorem c_X9_read_ok {l : Launch} {Z : zZ} (hZ : zSt l Z) {μ : zMem} {σ : Nat → Nat → Int32} {π : Nat → Nat → Option Nat} {g : Nat → Nat → Int64} (hS : zRef μ π) {n : Nat} (hn : n < 40) (hV : RV n σ) {c : Nat} (hc : c < 5) {v : Int32} (hv : (decide (-1000 ≤ v) && decide (v ≤ 1000)) = true) : zCt l Z mX9_read 8 0 0 [.ref 67, .int (nI c), .int v] (zA4 μ σ π g) (fun r μ' => r = some (.int (nI (doF (kpS (zu σ 67 45 0) n 3 (nI c) v 0) n).2)) ∧ ∃ g', μ' = zA4 μ ((doF (kpS (zu σ 67 45 0) n 3 (nI c) v 0) n).1) π g' ∧ zge g g') := by
  refine zCt_of hZ mpX9_read (Nat.le_of_ble_eq_true rfl) (L := [some (.ref 67), some (.int (nI c)), some (.int v)]) rfl (fun τ hY => ?_)
  have hT := hY.1
  have hV0 := hV.m 45 0 (by decide)
  have hk := kp_read hV0 hc v
  refine J_aload_n (i := 0) hT dX9_read_0 rfl rfl ?_
  refine J_iload_n (i := 1) hT dX9_read_1 rfl rfl ?_
  refine J_iconst (v := 5) hT dX9_read_2 rfl ?_
  refine R_callS1 hY dX9_read_3 mfX9_isIn mtX9_isIn kX9_283 (c_X9_isIn hZ) rfl (by decide) rfl rfl (Nat.le_of_ble_eq_true rfl) (Nat.le_refl _) (Nat.le_refl _) ?_
  refine J_topil (svc1 hc) ?_
  refine J_iload_n (i := 2) hT dX9_read_6 rfl rfl ?_
  refine J_sipush (v := -1000) hT dX9_read_7 rfl ?_
  refine J_sipush (v := 1000) hT dX9_read_10 rfl ?_
  refine R_callS1 hY dX9_read_13 mfX9_isWithin mtX9_isWithin kX9_255 (c_X9_isWithin hZ) rfl (by decide) rfl rfl (Nat.le_of_ble_eq_true rfl) (Nat.le_refl _) (Nat.le_refl _) ?_
  refine J_topil (zbT hv) ?_
  refine J_aload_n (i := 0) hT dX9_read_16 rfl rfl ?_
  refine R_callV1 (ci := 9) hY dX9_read_17 mfX9_hasRoom miX9_hasRoom msX9_hasRoom kX9_292 ⟨by decide, rfl⟩ (rk hS) (c_X9_hasRoom hZ hS) rfl (by decide) rfl rfl (Nat.le_of_ble_eq_true rfl) (Nat.le_refl _) (Nat.le_refl _) ?_
  refine J_topil (hr1 hV.2.1 hn) ?_
  refine R_callV1 (ci := 9) hY dX9_read_20 mfX9_goes miX9_goes msX9_goes kX9_150 ⟨by decide, rfl⟩ (rk hS) (c_X9_goes hZ hS) rfl (by decide) rfl rfl (Nat.le_of_ble_eq_true rfl) (Nat.le_refl _) (Nat.le_refl _) ?_
  rw [g111]
  refine J_topil (z00) ?_
  refine J_if_eq (tgt := 37) hT dX9_read_23 (by decide) (fun q => absurd q (by decide)) (fun _ => ?_)
  refine J_aload_n (i := 0) hT dX9_read_26 rfl rfl ?_
  refine J_iconst (v := 3) hT dX9_read_27 rfl ?_
  refine J_iload_n (i := 1) hT dX9_read_28 rfl rfl ?_
  refine J_iload_n (i := 2) hT dX9_read_29 rfl rfl ?_
  refine J_iconst (v := 0) hT dX9_read_30 rfl ?_
  refine J_callV (ci := 9) hY dX9_read_31 mfX9_keeps miX9_keeps msX9_keeps kX9_296 ⟨by decide, rfl⟩ (rk hS) (c_X9_keeps hZ hS (σ := zu σ 67 45 0) hn hV0.2.1 hV0.ri hk.1 hk.2) rfl (by decide) rfl rfl (Nat.le_of_ble_eq_true rfl) (Nat.le_refl _) (Nat.le_refl _) (fun r1 μ1 hq1 => ?_)
  obtain ⟨rfl, g2, rfl, hg2⟩ := hq1
  refine J_goto (tgt := 38) hT dX9_read_34 (by decide) ?_
  exact J_iret hT dX9_read_38 rfl rfl (⟨rfl, g2, rfl, hg2⟩) (Nat.le_refl _) (Nat.le_refl _)

set_option maxRecDepth 100000 in
set_option maxHeartbeats 4000000 in
theorem c_X9_read_no {l : Launch} {Z : zZ} (hZ : zSt l Z) {μ : zMem} {σ : Nat → Nat → Int32} {π : Nat → Nat → Option Nat} {g : Nat → Nat → Int64} (hS : zRef μ π) {a v : Int32} {t : Int32} (hG : goesN (zbi (decide (0 ≤ a) && decide (a < 5))) (zbi (decide (-1000 ≤ v) && decide (v ≤ 1000))) (zbi (decide (σ 67 42 < 40))) = t) (ht : t ≠ 0) : zCt l Z mX9_read 8 0 0 [.ref 67, .int a, .int v] (zA4 μ σ π g) (fun r μ' => r = some (.int 0) ∧ μ' = zA4 μ (zu σ 67 45 t) π g) := by
  refine zCt_of hZ mpX9_read (Nat.le_of_ble_eq_true rfl) (L := [some (.ref 67), some (.int a), some (.int v)]) rfl (fun τ hY => ?_)
  have hT := hY.1
  refine J_aload_n (i := 0) hT dX9_read_0 rfl rfl ?_
  refine J_iload_n (i := 1) hT dX9_read_1 rfl rfl ?_
  refine J_iconst (v := 5) hT dX9_read_2 rfl ?_
  refine R_callS1 hY dX9_read_3 mfX9_isIn mtX9_isIn kX9_283 (c_X9_isIn hZ) rfl (by decide) rfl rfl (Nat.le_of_ble_eq_true rfl) (Nat.le_refl _) (Nat.le_refl _) ?_
  refine J_iload_n (i := 2) hT dX9_read_6 rfl rfl ?_
  refine J_sipush (v := -1000) hT dX9_read_7 rfl ?_
  refine J_sipush (v := 1000) hT dX9_read_10 rfl ?_
  refine R_callS1 hY dX9_read_13 mfX9_isWithin mtX9_isWithin kX9_255 (c_X9_isWithin hZ) rfl (by decide) rfl rfl (Nat.le_of_ble_eq_true rfl) (Nat.le_refl _) (Nat.le_refl _) ?_
  refine J_aload_n (i := 0) hT dX9_read_16 rfl rfl ?_
  refine R_callV1 (ci := 9) hY dX9_read_17 mfX9_hasRoom miX9_hasRoom msX9_hasRoom kX9_292 ⟨by decide, rfl⟩ (rk hS) (c_X9_hasRoom hZ hS) rfl (by decide) rfl rfl (Nat.le_of_ble_eq_true rfl) (Nat.le_refl _) (Nat.le_refl _) ?_
  refine R_callV1 (ci := 9) hY dX9_read_20 mfX9_goes miX9_goes msX9_goes kX9_150 ⟨by decide, rfl⟩ (rk hS) (c_X9_goes hZ hS) rfl (by decide) rfl rfl (Nat.le_of_ble_eq_true rfl) (Nat.le_refl _) (Nat.le_refl _) ?_
  rw [hG]
  refine J_topil (zt0 ht) ?_
  refine J_if_eq (tgt := 37) hT dX9_read_23 (by decide) (fun _ => ?_) (fun q => absurd (rfl) q)
  refine J_iconst (v := 0) hT dX9_read_37 rfl ?_
  exact J_iret hT dX9_read_38 rfl rfl (⟨rfl, rfl⟩) (Nat.le_refl _) (Nat.le_refl _)

set_option maxRecDepth 100000 in
set_option maxHeartbeats 4000000 in
theorem c_X9_lie_ok {l : Launch} {Z : zZ} (hZ : zSt l Z) {μ : zMem} {σ : Nat → Nat → Int32} {π : Nat → Nat → Option Nat} {g : Nat → Nat → Int64} (hS : zRef μ π) {n : Nat} (hn : n < 40) (hV : RV n σ) {c : Nat} (hc : c < 5) {v : Int32} (hv : (decide (-1 ≤ v) && decide (v ≤ 1000)) = true) : zCt l Z mX9_lie 8 0 0 [.ref 67, .int (nI c), .int v] (zA4 μ σ π g) (fun r μ' => r = some (.int (nI (doF (kpS (zu σ 67 45 0) n 8 (nI c) v 0) n).2)) ∧ ∃ g', μ' = zA4 μ ((doF (kpS (zu σ 67 45 0) n 8 (nI c) v 0) n).1) π g' ∧ zge g g') := by
  refine zCt_of hZ mpX9_lie (Nat.le_of_ble_eq_true rfl) (L := [some (.ref 67), some (.int (nI c)), some (.int v)]) rfl (fun τ hY => ?_)
  have hT := hY.1
  have hV0 := hV.m 45 0 (by decide)
  have hk := kp_lie hV0 hc v
  refine J_aload_n (i := 0) hT dX9_lie_0 rfl rfl ?_
  refine J_iload_n (i := 1) hT dX9_lie_1 rfl rfl ?_
  refine R_callS1 hY dX9_lie_2 mfX9_isService mtX9_isService kX9_300 (c_X9_isService hZ) rfl (by decide) rfl rfl (Nat.le_of_ble_eq_true rfl) (Nat.le_refl _) (Nat.le_refl _) ?_
  refine J_topil (svc1 hc) ?_
  refine J_iload_n (i := 2) hT dX9_lie_5 rfl rfl ?_
  refine J_iconst (v := -1) hT dX9_lie_6 rfl ?_
  refine J_sipush (v := 1000) hT dX9_lie_7 rfl ?_
  refine R_callS1 hY dX9_lie_10 mfX9_isWithin mtX9_isWithin kX9_255 (c_X9_isWithin hZ) rfl (by decide) rfl rfl (Nat.le_of_ble_eq_true rfl) (Nat.le_refl _) (Nat.le_refl _) ?_
  refine J_topil (zbT hv) ?_
  refine J_aload_n (i := 0) hT dX9_lie_13 rfl rfl ?_
  refine R_callV1 (ci := 9) hY dX9_lie_14 mfX9_hasRoom miX9_hasRoom msX9_hasRoom kX9_292 ⟨by decide, rfl⟩ (rk hS) (c_X9_hasRoom hZ hS) rfl (by decide) rfl rfl (Nat.le_of_ble_eq_true rfl) (Nat.le_refl _) (Nat.le_refl _) ?_
  refine J_topil (hr1 hV.2.1 hn) ?_
  refine R_callV1 (ci := 9) hY dX9_lie_17 mfX9_goes miX9_goes msX9_goes kX9_150 ⟨by decide, rfl⟩ (rk hS) (c_X9_goes hZ hS) rfl (by decide) rfl rfl (Nat.le_of_ble_eq_true rfl) (Nat.le_refl _) (Nat.le_refl _) ?_
  rw [g111]
  refine J_topil (z00) ?_
  refine J_if_eq (tgt := 35) hT dX9_lie_20 (by decide) (fun q => absurd q (by decide)) (fun _ => ?_)
  refine J_aload_n (i := 0) hT dX9_lie_23 rfl rfl ?_
  refine J_bipush (v := 8) hT dX9_lie_24 rfl ?_
  refine J_iload_n (i := 1) hT dX9_lie_26 rfl rfl ?_
  refine J_iload_n (i := 2) hT dX9_lie_27 rfl rfl ?_
  refine J_iconst (v := 0) hT dX9_lie_28 rfl ?_
  refine J_callV (ci := 9) hY dX9_lie_29 mfX9_keeps miX9_keeps msX9_keeps kX9_296 ⟨by decide, rfl⟩ (rk hS) (c_X9_keeps hZ hS (σ := zu σ 67 45 0) hn hV0.2.1 hV0.ri hk.1 hk.2) rfl (by decide) rfl rfl (Nat.le_of_ble_eq_true rfl) (Nat.le_refl _) (Nat.le_refl _) (fun r1 μ1 hq1 => ?_)
  obtain ⟨rfl, g2, rfl, hg2⟩ := hq1
  refine J_goto (tgt := 36) hT dX9_lie_32 (by decide) ?_
  exact J_iret hT dX9_lie_36 rfl rfl (⟨rfl, g2, rfl, hg2⟩) (Nat.le_refl _) (Nat.le_refl _)

set_option maxRecDepth 100000 in
set_option maxHeartbeats 4000000 in
theorem c_X9_lie_no {l : Launch} {Z : zZ} (hZ : zSt l Z) {μ : zMem} {σ : Nat → Nat → Int32} {π : Nat → Nat → Option Nat} {g : Nat → Nat → Int64} (hS : zRef μ π) {a v : Int32} {t : Int32} (hG : goesN (zbi (decide (0 ≤ a) && decide (a < 5))) (zbi (decide (-1 ≤ v) && decide (v ≤ 1000))) (zbi (decide (σ 67 42 < 40))) = t) (ht : t ≠ 0) : zCt l Z mX9_lie 8 0 0 [.ref 67, .int a, .int v] (zA4 μ σ π g) (fun r μ' => r = some (.int 0) ∧ μ' = zA4 μ (zu σ 67 45 t) π g) := by
  refine zCt_of hZ mpX9_lie (Nat.le_of_ble_eq_true rfl) (L := [some (.ref 67), some (.int a), some (.int v)]) rfl (fun τ hY => ?_)
  have hT := hY.1
  refine J_aload_n (i := 0) hT dX9_lie_0 rfl rfl ?_
  refine J_iload_n (i := 1) hT dX9_lie_1 rfl rfl ?_
  refine R_callS1 hY dX9_lie_2 mfX9_isService mtX9_isService kX9_300 (c_X9_isService hZ) rfl (by decide) rfl rfl (Nat.le_of_ble_eq_true rfl) (Nat.le_refl _) (Nat.le_refl _) ?_
  refine J_iload_n (i := 2) hT dX9_lie_5 rfl rfl ?_
  refine J_iconst (v := -1) hT dX9_lie_6 rfl ?_
  refine J_sipush (v := 1000) hT dX9_lie_7 rfl ?_
  refine R_callS1 hY dX9_lie_10 mfX9_isWithin mtX9_isWithin kX9_255 (c_X9_isWithin hZ) rfl (by decide) rfl rfl (Nat.le_of_ble_eq_true rfl) (Nat.le_refl _) (Nat.le_refl _) ?_
  refine J_aload_n (i := 0) hT dX9_lie_13 rfl rfl ?_
  refine R_callV1 (ci := 9) hY dX9_lie_14 mfX9_hasRoom miX9_hasRoom msX9_hasRoom kX9_292 ⟨by decide, rfl⟩ (rk hS) (c_X9_hasRoom hZ hS) rfl (by decide) rfl rfl (Nat.le_of_ble_eq_true rfl) (Nat.le_refl _) (Nat.le_refl _) ?_
  refine R_callV1 (ci := 9) hY dX9_lie_17 mfX9_goes miX9_goes msX9_goes kX9_150 ⟨by decide, rfl⟩ (rk hS) (c_X9_goes hZ hS) rfl (by decide) rfl rfl (Nat.le_of_ble_eq_true rfl) (Nat.le_refl _) (Nat.le_refl _) ?_
  rw [hG]
  refine J_topil (zt0 ht) ?_
  refine J_if_eq (tgt := 35) hT dX9_lie_20 (by decide) (fun _ => ?_) (fun q => absurd (rfl) q)
  refine J_iconst (v := 0) hT dX9_lie_35 rfl ?_
  exact J_iret hT dX9_lie_36 rfl rfl (⟨rfl, rfl⟩) (Nat.le_refl _) (Nat.le_refl _)

set_option maxRecDepth 100000 in
set_option maxHeartbeats 4000000 in
theorem c_X9_control_ok {l : Launch} {Z : zZ} (hZ : zSt l Z) {μ : zMem} {σ : Nat → Nat → Int32} {π : Nat → Nat → Option Nat} {g : Nat → Nat → Int64} (hS : zRef μ π) {n : Nat} (hn : n < 40) (hV : RV n σ) {c : Nat} (hc : c < 5) {v : Int32} (hv : (decide (-1 ≤ v) && decide (v ≤ 11)) = true) (hx : okC v) : zCt l Z mX9_control 8 0 0 [.ref 67, .int (nI c), .int v] (zA4 μ σ π g) (fun r μ' => r = some (.int (nI (doF (kpS (zu σ 67 45 0) n 4 (nI c) v 0) n).2)) ∧ ∃ g', μ' = zA4 μ ((doF (kpS (zu σ 67 45 0) n 4 (nI c) v 0) n).1) π g' ∧ zge g g') := by
  refine zCt_of hZ mpX9_control (Nat.le_of_ble_eq_true rfl) (L := [some (.ref 67), some (.int (nI c)), some (.int v)]) rfl (fun τ hY => ?_)
  have hT := hY.1
  have hV0 := hV.m 45 0 (by decide)
  have hk := kp_control hV0 hc hx
  refine J_aload_n (i := 0) hT dX9_control_0 rfl rfl ?_
  refine J_iload_n (i := 1) hT dX9_control_1 rfl rfl ?_
  refine R_callS1 hY dX9_control_2 mfX9_isService mtX9_isService kX9_300 (c_X9_isService hZ) rfl (by decide) rfl rfl (Nat.le_of_ble_eq_true rfl) (Nat.le_refl _) (Nat.le_refl _) ?_
  refine J_topil (svc1 hc) ?_
  refine J_if_eq (tgt := 22) hT dX9_control_5 (by decide) (fun q => absurd q (by decide)) (fun _ => ?_)
  refine J_iload_n (i := 2) hT dX9_control_8 rfl rfl ?_
  refine J_iconst (v := -1) hT dX9_control_9 rfl ?_
  refine J_bipush (v := 11) hT dX9_control_10 rfl ?_
  refine R_callS1 hY dX9_control_12 mfX9_isWithin mtX9_isWithin kX9_255 (c_X9_isWithin hZ) rfl (by decide) rfl rfl (Nat.le_of_ble_eq_true rfl) (Nat.le_refl _) (Nat.le_refl _) ?_
  refine J_topil (zbT hv) ?_
  refine J_if_eq (tgt := 22) hT dX9_control_15 (by decide) (fun q => absurd q (by decide)) (fun _ => ?_)
  refine J_iconst (v := 1) hT dX9_control_18 rfl ?_
  refine J_goto (tgt := 23) hT dX9_control_19 (by decide) ?_
  refine J_aload_n (i := 0) hT dX9_control_23 rfl rfl ?_
  refine R_callV1 (ci := 9) hY dX9_control_24 mfX9_hasRoom miX9_hasRoom msX9_hasRoom kX9_292 ⟨by decide, rfl⟩ (rk hS) (c_X9_hasRoom hZ hS) rfl (by decide) rfl rfl (Nat.le_of_ble_eq_true rfl) (Nat.le_refl _) (Nat.le_refl _) ?_
  refine J_topil (hr1 hV.2.1 hn) ?_
  refine J_iconst (v := 1) hT dX9_control_27 rfl ?_
  refine R_callV1 (ci := 9) hY dX9_control_28 mfX9_goes miX9_goes msX9_goes kX9_150 ⟨by decide, rfl⟩ (rk hS) (c_X9_goes hZ hS) rfl (by decide) rfl rfl (Nat.le_of_ble_eq_true rfl) (Nat.le_refl _) (Nat.le_refl _) ?_
  rw [g111]
  refine J_topil (z00) ?_
  refine J_if_eq (tgt := 45) hT dX9_control_31 (by decide) (fun q => absurd q (by decide)) (fun _ => ?_)
  refine J_aload_n (i := 0) hT dX9_control_34 rfl rfl ?_
  refine J_iconst (v := 4) hT dX9_control_35 rfl ?_
  refine J_iload_n (i := 1) hT dX9_control_36 rfl rfl ?_
  refine J_iload_n (i := 2) hT dX9_control_37 rfl rfl ?_
  refine J_iconst (v := 0) hT dX9_control_38 rfl ?_
  refine J_callV (ci := 9) hY dX9_control_39 mfX9_keeps miX9_keeps msX9_keeps kX9_296 ⟨by decide, rfl⟩ (rk hS) (c_X9_keeps hZ hS (σ := zu σ 67 45 0) hn hV0.2.1 hV0.ri hk.1 hk.2) rfl (by decide) rfl rfl (Nat.le_of_ble_eq_true rfl) (Nat.le_refl _) (Nat.le_refl _) (fun r1 μ1 hq1 => ?_)
  obtain ⟨rfl, g2, rfl, hg2⟩ := hq1
  refine J_goto (tgt := 46) hT dX9_control_42 (by decide) ?_
  exact J_iret hT dX9_control_46 rfl rfl (⟨rfl, g2, rfl, hg2⟩) (Nat.le_refl _) (Nat.le_refl _)

set_option maxRecDepth 100000 in
set_option maxHeartbeats 4000000 in
theorem c_X9_control_no1 {l : Launch} {Z : zZ} (hZ : zSt l Z) {μ : zMem} {σ : Nat → Nat → Int32} {π : Nat → Nat → Option Nat} {g : Nat → Nat → Int64} (hS : zRef μ π) {a v : Int32} (hb : (svcB a && (decide (-1 ≤ v) && decide (v ≤ 11))) = false) : zCt l Z mX9_control 8 0 0 [.ref 67, .int a, .int v] (zA4 μ σ π g) (fun r μ' => r = some (.int 0) ∧ μ' = zA4 μ (zu σ 67 45 1) π g) := by
  refine zCt_of hZ mpX9_control (Nat.le_of_ble_eq_true rfl) (L := [some (.ref 67), some (.int a), some (.int v)]) rfl (fun τ hY => ?_)
  have hT := hY.1
  cases h1 : svcB a with
  | false =>
    refine J_aload_n (i := 0) hT dX9_control_0 rfl rfl ?_
    refine J_iload_n (i := 1) hT dX9_control_1 rfl rfl ?_
    refine R_callS1 hY dX9_control_2 mfX9_isService mtX9_isService kX9_300 (c_X9_isService hZ) rfl (by decide) rfl rfl (Nat.le_of_ble_eq_true rfl) (Nat.le_refl _) (Nat.le_refl _) ?_
    refine J_topil (svc0 h1) ?_
    refine J_if_eq (tgt := 22) hT dX9_control_5 (by decide) (fun _ => ?_) (fun q => absurd (rfl) q)
    refine J_iconst (v := 0) hT dX9_control_22 rfl ?_
    refine J_aload_n (i := 0) hT dX9_control_23 rfl rfl ?_
    refine R_callV1 (ci := 9) hY dX9_control_24 mfX9_hasRoom miX9_hasRoom msX9_hasRoom kX9_292 ⟨by decide, rfl⟩ (rk hS) (c_X9_hasRoom hZ hS) rfl (by decide) rfl rfl (Nat.le_of_ble_eq_true rfl) (Nat.le_refl _) (Nat.le_refl _) ?_
    refine J_iconst (v := 1) hT dX9_control_27 rfl ?_
    refine R_callV1 (ci := 9) hY dX9_control_28 mfX9_goes miX9_goes msX9_goes kX9_150 ⟨by decide, rfl⟩ (rk hS) (c_X9_goes hZ hS) rfl (by decide) rfl rfl (Nat.le_of_ble_eq_true rfl) (Nat.le_refl _) (Nat.le_refl _) ?_
    rw [g0]
    refine J_topil (z10) ?_
    refine J_if_eq (tgt := 45) hT dX9_control_31 (by decide) (fun _ => ?_) (fun q => absurd (rfl) q)
    refine J_iconst (v := 0) hT dX9_control_45 rfl ?_
    exact J_iret hT dX9_control_46 rfl rfl (⟨rfl, rfl⟩) (Nat.le_refl _) (Nat.le_refl _)
  | true =>
    have h2 : (decide (-1 ≤ v) && decide (v ≤ 11)) = false := by rw [h1, Bool.true_and] at hb; exact hb
    refine J_aload_n (i := 0) hT dX9_control_0 rfl rfl ?_
    refine J_iload_n (i := 1) hT dX9_control_1 rfl rfl ?_
    refine R_callS1 hY dX9_control_2 mfX9_isService mtX9_isService kX9_300 (c_X9_isService hZ) rfl (by decide) rfl rfl (Nat.le_of_ble_eq_true rfl) (Nat.le_refl _) (Nat.le_refl _) ?_
    refine J_topil (zbT h1) ?_
    refine J_if_eq (tgt := 22) hT dX9_control_5 (by decide) (fun q => absurd q (by decide)) (fun _ => ?_)
    refine J_iload_n (i := 2) hT dX9_control_8 rfl rfl ?_
    refine J_iconst (v := -1) hT dX9_control_9 rfl ?_
    refine J_bipush (v := 11) hT dX9_control_10 rfl ?_
    refine R_callS1 hY dX9_control_12 mfX9_isWithin mtX9_isWithin kX9_255 (c_X9_isWithin hZ) rfl (by decide) rfl rfl (Nat.le_of_ble_eq_true rfl) (Nat.le_refl _) (Nat.le_refl _) ?_
    refine J_topil (zbF h2) ?_
    refine J_if_eq (tgt := 22) hT dX9_control_15 (by decide) (fun _ => ?_) (fun q => absurd (rfl) q)
    refine J_iconst (v := 0) hT dX9_control_22 rfl ?_
    refine J_aload_n (i := 0) hT dX9_control_23 rfl rfl ?_
    refine R_callV1 (ci := 9) hY dX9_control_24 mfX9_hasRoom miX9_hasRoom msX9_hasRoom kX9_292 ⟨by decide, rfl⟩ (rk hS) (c_X9_hasRoom hZ hS) rfl (by decide) rfl rfl (Nat.le_of_ble_eq_true rfl) (Nat.le_refl _) (Nat.le_refl _) ?_
    refine J_iconst (v := 1) hT dX9_control_27 rfl ?_
    refine R_callV1 (ci := 9) hY dX9_control_28 mfX9_goes miX9_goes msX9_goes kX9_150 ⟨by decide, rfl⟩ (rk hS) (c_X9_goes hZ hS) rfl (by decide) rfl rfl (Nat.le_of_ble_eq_true rfl) (Nat.le_refl _) (Nat.le_refl _) ?_
    rw [g0]
    refine J_topil (z10) ?_
    refine J_if_eq (tgt := 45) hT dX9_control_31 (by decide) (fun _ => ?_) (fun q => absurd (rfl) q)
    refine J_iconst (v := 0) hT dX9_control_45 rfl ?_
    exact J_iret hT dX9_control_46 rfl rfl (⟨rfl, rfl⟩) (Nat.le_refl _) (Nat.le_refl _)

set_option maxRecDepth 100000 in
set_option maxHeartbeats 4000000 in
theorem c_X9_control_no2 {l : Launch} {Z : zZ} (hZ : zSt l Z) {μ : zMem} {σ : Nat → Nat → Int32} {π : Nat → Nat → Option Nat} {g : Nat → Nat → Int64} (hS : zRef μ π) {n : Nat} (hV : RV n σ) (hn : ¬ n < 40) {c : Nat} (hc : c < 5) {v : Int32} (hv : (decide (-1 ≤ v) && decide (v ≤ 11)) = true) : zCt l Z mX9_control 8 0 0 [.ref 67, .int (nI c), .int v] (zA4 μ σ π g) (fun r μ' => r = some (.int 0) ∧ μ' = zA4 μ (zu σ 67 45 2) π g) := by
  refine zCt_of hZ mpX9_control (Nat.le_of_ble_eq_true rfl) (L := [some (.ref 67), some (.int (nI c)), some (.int v)]) rfl (fun τ hY => ?_)
  have hT := hY.1
  refine J_aload_n (i := 0) hT dX9_control_0 rfl rfl ?_
  refine J_iload_n (i := 1) hT dX9_control_1 rfl rfl ?_
  refine R_callS1 hY dX9_control_2 mfX9_isService mtX9_isService kX9_300 (c_X9_isService hZ) rfl (by decide) rfl rfl (Nat.le_of_ble_eq_true rfl) (Nat.le_refl _) (Nat.le_refl _) ?_
  refine J_topil (svc1 hc) ?_
  refine J_if_eq (tgt := 22) hT dX9_control_5 (by decide) (fun q => absurd q (by decide)) (fun _ => ?_)
  refine J_iload_n (i := 2) hT dX9_control_8 rfl rfl ?_
  refine J_iconst (v := -1) hT dX9_control_9 rfl ?_
  refine J_bipush (v := 11) hT dX9_control_10 rfl ?_
  refine R_callS1 hY dX9_control_12 mfX9_isWithin mtX9_isWithin kX9_255 (c_X9_isWithin hZ) rfl (by decide) rfl rfl (Nat.le_of_ble_eq_true rfl) (Nat.le_refl _) (Nat.le_refl _) ?_
  refine J_topil (zbT hv) ?_
  refine J_if_eq (tgt := 22) hT dX9_control_15 (by decide) (fun q => absurd q (by decide)) (fun _ => ?_)
  refine J_iconst (v := 1) hT dX9_control_18 rfl ?_
  refine J_goto (tgt := 23) hT dX9_control_19 (by decide) ?_
  refine J_aload_n (i := 0) hT dX9_control_23 rfl rfl ?_
  refine R_callV1 (ci := 9) hY dX9_control_24 mfX9_hasRoom miX9_hasRoom msX9_hasRoom kX9_292 ⟨by decide, rfl⟩ (rk hS) (c_X9_hasRoom hZ hS) rfl (by decide) rfl rfl (Nat.le_of_ble_eq_true rfl) (Nat.le_refl _) (Nat.le_refl _) ?_
  refine J_topil (hr0 hV.2.1 hn hV.1) ?_
  refine J_iconst (v := 1) hT dX9_control_27 rfl ?_
  refine R_callV1 (ci := 9) hY dX9_control_28 mfX9_goes miX9_goes msX9_goes kX9_150 ⟨by decide, rfl⟩ (rk hS) (c_X9_goes hZ hS) rfl (by decide) rfl rfl (Nat.le_of_ble_eq_true rfl) (Nat.le_refl _) (Nat.le_refl _) ?_
  rw [g10]
  refine J_topil (z20) ?_
  refine J_if_eq (tgt := 45) hT dX9_control_31 (by decide) (fun _ => ?_) (fun q => absurd (rfl) q)
  refine J_iconst (v := 0) hT dX9_control_45 rfl ?_
  exact J_iret hT dX9_control_46 rfl rfl (⟨rfl, rfl⟩) (Nat.le_refl _) (Nat.le_refl _)

set_option maxRecDepth 100000 in
set_option maxHeartbeats 4000000 in
theorem c_X9_limit_ok {l : Launch} {Z : zZ} (hZ : zSt l Z) {μ : zMem} {σ : Nat → Nat → Int32} {π : Nat → Nat → Option Nat} {g : Nat → Nat → Int64} (hS : zRef μ π) {n : Nat} (hn : n < 40) (hV : RV n σ) {c : Nat} (hc : c < 5) {v : Int32} (hv : (decide (-1 ≤ v) && decide (v ≤ 11)) = true) (hx : okC v) : zCt l Z mX9_limit 8 0 0 [.ref 67, .int (nI c), .int v] (zA4 μ σ π g) (fun r μ' => r = some (.int (nI (doF (kpS (zu σ 67 45 0) n 5 (nI c) v 0) n).2)) ∧ ∃ g', μ' = zA4 μ ((doF (kpS (zu σ 67 45 0) n 5 (nI c) v 0) n).1) π g' ∧ zge g g') := by
  refine zCt_of hZ mpX9_limit (Nat.le_of_ble_eq_true rfl) (L := [some (.ref 67), some (.int (nI c)), some (.int v)]) rfl (fun τ hY => ?_)
  have hT := hY.1
  have hV0 := hV.m 45 0 (by decide)
  have hk := kp_limit hV0 hc hx
  refine J_aload_n (i := 0) hT dX9_limit_0 rfl rfl ?_
  refine J_iload_n (i := 1) hT dX9_limit_1 rfl rfl ?_
  refine R_callS1 hY dX9_limit_2 mfX9_isService mtX9_isService kX9_300 (c_X9_isService hZ) rfl (by decide) rfl rfl (Nat.le_of_ble_eq_true rfl) (Nat.le_refl _) (Nat.le_refl _) ?_
  refine J_topil (svc1 hc) ?_
  refine J_if_eq (tgt := 22) hT dX9_limit_5 (by decide) (fun q => absurd q (by decide)) (fun _ => ?_)
  refine J_iload_n (i := 2) hT dX9_limit_8 rfl rfl ?_
  refine J_iconst (v := -1) hT dX9_limit_9 rfl ?_
  refine J_bipush (v := 11) hT dX9_limit_10 rfl ?_
  refine R_callS1 hY dX9_limit_12 mfX9_isWithin mtX9_isWithin kX9_255 (c_X9_isWithin hZ) rfl (by decide) rfl rfl (Nat.le_of_ble_eq_true rfl) (Nat.le_refl _) (Nat.le_refl _) ?_
  refine J_topil (zbT hv) ?_
  refine J_if_eq (tgt := 22) hT dX9_limit_15 (by decide) (fun q => absurd q (by decide)) (fun _ => ?_)
  refine J_iconst (v := 1) hT dX9_limit_18 rfl ?_
  refine J_goto (tgt := 23) hT dX9_limit_19 (by decide) ?_
  refine J_aload_n (i := 0) hT dX9_limit_23 rfl rfl ?_
  refine R_callV1 (ci := 9) hY dX9_limit_24 mfX9_hasRoom miX9_hasRoom msX9_hasRoom kX9_292 ⟨by decide, rfl⟩ (rk hS) (c_X9_hasRoom hZ hS) rfl (by decide) rfl rfl (Nat.le_of_ble_eq_true rfl) (Nat.le_refl _) (Nat.le_refl _) ?_
  refine J_topil (hr1 hV.2.1 hn) ?_
  refine J_iconst (v := 1) hT dX9_limit_27 rfl ?_
  refine R_callV1 (ci := 9) hY dX9_limit_28 mfX9_goes miX9_goes msX9_goes kX9_150 ⟨by decide, rfl⟩ (rk hS) (c_X9_goes hZ hS) rfl (by decide) rfl rfl (Nat.le_of_ble_eq_true rfl) (Nat.le_refl _) (Nat.le_refl _) ?_
  rw [g111]
  refine J_topil (z00) ?_
  refine J_if_eq (tgt := 45) hT dX9_limit_31 (by decide) (fun q => absurd q (by decide)) (fun _ => ?_)
  refine J_aload_n (i := 0) hT dX9_limit_34 rfl rfl ?_
  refine J_iconst (v := 5) hT dX9_limit_35 rfl ?_
  refine J_iload_n (i := 1) hT dX9_limit_36 rfl rfl ?_
  refine J_iload_n (i := 2) hT dX9_limit_37 rfl rfl ?_
  refine J_iconst (v := 0) hT dX9_limit_38 rfl ?_
  refine J_callV (ci := 9) hY dX9_limit_39 mfX9_keeps miX9_keeps msX9_keeps kX9_296 ⟨by decide, rfl⟩ (rk hS) (c_X9_keeps hZ hS (σ := zu σ 67 45 0) hn hV0.2.1 hV0.ri hk.1 hk.2) rfl (by decide) rfl rfl (Nat.le_of_ble_eq_true rfl) (Nat.le_refl _) (Nat.le_refl _) (fun r1 μ1 hq1 => ?_)
  obtain ⟨rfl, g2, rfl, hg2⟩ := hq1
  refine J_goto (tgt := 46) hT dX9_limit_42 (by decide) ?_
  exact J_iret hT dX9_limit_46 rfl rfl (⟨rfl, g2, rfl, hg2⟩) (Nat.le_refl _) (Nat.le_refl _)

set_option maxRecDepth 100000 in
set_option maxHeartbeats 4000000 in
theorem c_X9_limit_no1 {l : Launch} {Z : zZ} (hZ : zSt l Z) {μ : zMem} {σ : Nat → Nat → Int32} {π : Nat → Nat → Option Nat} {g : Nat → Nat → Int64} (hS : zRef μ π) {a v : Int32} (hb : (svcB a && (decide (-1 ≤ v) && decide (v ≤ 11))) = false) : zCt l Z mX9_limit 8 0 0 [.ref 67, .int a, .int v] (zA4 μ σ π g) (fun r μ' => r = some (.int 0) ∧ μ' = zA4 μ (zu σ 67 45 1) π g) := by
  refine zCt_of hZ mpX9_limit (Nat.le_of_ble_eq_true rfl) (L := [some (.ref 67), some (.int a), some (.int v)]) rfl (fun τ hY => ?_)
  have hT := hY.1
  cases h1 : svcB a with
  | false =>
    refine J_aload_n (i := 0) hT dX9_limit_0 rfl rfl ?_
    refine J_iload_n (i := 1) hT dX9_limit_1 rfl rfl ?_
    refine R_callS1 hY dX9_limit_2 mfX9_isService mtX9_isService kX9_300 (c_X9_isService hZ) rfl (by decide) rfl rfl (Nat.le_of_ble_eq_true rfl) (Nat.le_refl _) (Nat.le_refl _) ?_
    refine J_topil (svc0 h1) ?_
    refine J_if_eq (tgt := 22) hT dX9_limit_5 (by decide) (fun _ => ?_) (fun q => absurd (rfl) q)
    refine J_iconst (v := 0) hT dX9_limit_22 rfl ?_
    refine J_aload_n (i := 0) hT dX9_limit_23 rfl rfl ?_
    refine R_callV1 (ci := 9) hY dX9_limit_24 mfX9_hasRoom miX9_hasRoom msX9_hasRoom kX9_292 ⟨by decide, rfl⟩ (rk hS) (c_X9_hasRoom hZ hS) rfl (by decide) rfl rfl (Nat.le_of_ble_eq_true rfl) (Nat.le_refl _) (Nat.le_refl _) ?_
    refine J_iconst (v := 1) hT dX9_limit_27 rfl ?_
    refine R_callV1 (ci := 9) hY dX9_limit_28 mfX9_goes miX9_goes msX9_goes kX9_150 ⟨by decide, rfl⟩ (rk hS) (c_X9_goes hZ hS) rfl (by decide) rfl rfl (Nat.le_of_ble_eq_true rfl) (Nat.le_refl _) (Nat.le_refl _) ?_
    rw [g0]
    refine J_topil (z10) ?_
    refine J_if_eq (tgt := 45) hT dX9_limit_31 (by decide) (fun _ => ?_) (fun q => absurd (rfl) q)
    refine J_iconst (v := 0) hT dX9_limit_45 rfl ?_
    exact J_iret hT dX9_limit_46 rfl rfl (⟨rfl, rfl⟩) (Nat.le_refl _) (Nat.le_refl _)
  | true =>
    have h2 : (decide (-1 ≤ v) && decide (v ≤ 11)) = false := by rw [h1, Bool.true_and] at hb; exact hb
    refine J_aload_n (i := 0) hT dX9_limit_0 rfl rfl ?_
    refine J_iload_n (i := 1) hT dX9_limit_1 rfl rfl ?_
    refine R_callS1 hY dX9_limit_2 mfX9_isService mtX9_isService kX9_300 (c_X9_isService hZ) rfl (by decide) rfl rfl (Nat.le_of_ble_eq_true rfl) (Nat.le_refl _) (Nat.le_refl _) ?_
    refine J_topil (zbT h1) ?_
    refine J_if_eq (tgt := 22) hT dX9_limit_5 (by decide) (fun q => absurd q (by decide)) (fun _ => ?_)
    refine J_iload_n (i := 2) hT dX9_limit_8 rfl rfl ?_
    refine J_iconst (v := -1) hT dX9_limit_9 rfl ?_
    refine J_bipush (v := 11) hT dX9_limit_10 rfl ?_
    refine R_callS1 hY dX9_limit_12 mfX9_isWithin mtX9_isWithin kX9_255 (c_X9_isWithin hZ) rfl (by decide) rfl rfl (Nat.le_of_ble_eq_true rfl) (Nat.le_refl _) (Nat.le_refl _) ?_
    refine J_topil (zbF h2) ?_
    refine J_if_eq (tgt := 22) hT dX9_limit_15 (by decide) (fun _ => ?_) (fun q => absurd (rfl) q)
    refine J_iconst (v := 0) hT dX9_limit_22 rfl ?_
    refine J_aload_n (i := 0) hT dX9_limit_23 rfl rfl ?_
    refine R_callV1 (ci := 9) hY dX9_limit_24 mfX9_hasRoom miX9_hasRoom msX9_hasRoom kX9_292 ⟨by decide, rfl⟩ (rk hS) (c_X9_hasRoom hZ hS) rfl (by decide) rfl rfl (Nat.le_of_ble_eq_true rfl) (Nat.le_refl _) (Nat.le_refl _) ?_
    refine J_iconst (v := 1) hT dX9_limit_27 rfl ?_
    refine R_callV1 (ci := 9) hY dX9_limit_28 mfX9_goes miX9_goes msX9_goes kX9_150 ⟨by decide, rfl⟩ (rk hS) (c_X9_goes hZ hS) rfl (by decide) rfl rfl (Nat.le_of_ble_eq_true rfl) (Nat.le_refl _) (Nat.le_refl _) ?_
    rw [g0]
    refine J_topil (z10) ?_
    refine J_if_eq (tgt := 45) hT dX9_limit_31 (by decide) (fun _ => ?_) (fun q => absurd (rfl) q)
    refine J_iconst (v := 0) hT dX9_limit_45 rfl ?_
    exact J_iret hT dX9_limit_46 rfl rfl (⟨rfl, rfl⟩) (Nat.le_refl _) (Nat.le_refl _)

set_option maxRecDepth 100000 in
set_option maxHeartbeats 4000000 in
theorem c_X9_limit_no2 {l : Launch} {Z : zZ} (hZ : zSt l Z) {μ : zMem} {σ : Nat → Nat → Int32} {π : Nat → Nat → Option Nat} {g : Nat → Nat → Int64} (hS : zRef μ π) {n : Nat} (hV : RV n σ) (hn : ¬ n < 40) {c : Nat} (hc : c < 5) {v : Int32} (hv : (decide (-1 ≤ v) && decide (v ≤ 11)) = true) : zCt l Z mX9_limit 8 0 0 [.ref 67, .int (nI c), .int v] (zA4 μ σ π g) (fun r μ' => r = some (.int 0) ∧ μ' = zA4 μ (zu σ 67 45 2) π g) := by
  refine zCt_of hZ mpX9_limit (Nat.le_of_ble_eq_true rfl) (L := [some (.ref 67), some (.int (nI c)), some (.int v)]) rfl (fun τ hY => ?_)
  have hT := hY.1
  refine J_aload_n (i := 0) hT dX9_limit_0 rfl rfl ?_
  refine J_iload_n (i := 1) hT dX9_limit_1 rfl rfl ?_
  refine R_callS1 hY dX9_limit_2 mfX9_isService mtX9_isService kX9_300 (c_X9_isService hZ) rfl (by decide) rfl rfl (Nat.le_of_ble_eq_true rfl) (Nat.le_refl _) (Nat.le_refl _) ?_
  refine J_topil (svc1 hc) ?_
  refine J_if_eq (tgt := 22) hT dX9_limit_5 (by decide) (fun q => absurd q (by decide)) (fun _ => ?_)
  refine J_iload_n (i := 2) hT dX9_limit_8 rfl rfl ?_
  refine J_iconst (v := -1) hT dX9_limit_9 rfl ?_
  refine J_bipush (v := 11) hT dX9_limit_10 rfl ?_
  refine R_callS1 hY dX9_limit_12 mfX9_isWithin mtX9_isWithin kX9_255 (c_X9_isWithin hZ) rfl (by decide) rfl rfl (Nat.le_of_ble_eq_true rfl) (Nat.le_refl _) (Nat.le_refl _) ?_
  refine J_topil (zbT hv) ?_
  refine J_if_eq (tgt := 22) hT dX9_limit_15 (by decide) (fun q => absurd q (by decide)) (fun _ => ?_)
  refine J_iconst (v := 1) hT dX9_limit_18 rfl ?_
  refine J_goto (tgt := 23) hT dX9_limit_19 (by decide) ?_
  refine J_aload_n (i := 0) hT dX9_limit_23 rfl rfl ?_
  refine R_callV1 (ci := 9) hY dX9_limit_24 mfX9_hasRoom miX9_hasRoom msX9_hasRoom kX9_292 ⟨by decide, rfl⟩ (rk hS) (c_X9_hasRoom hZ hS) rfl (by decide) rfl rfl (Nat.le_of_ble_eq_true rfl) (Nat.le_refl _) (Nat.le_refl _) ?_
  refine J_topil (hr0 hV.2.1 hn hV.1) ?_
  refine J_iconst (v := 1) hT dX9_limit_27 rfl ?_
  refine R_callV1 (ci := 9) hY dX9_limit_28 mfX9_goes miX9_goes msX9_goes kX9_150 ⟨by decide, rfl⟩ (rk hS) (c_X9_goes hZ hS) rfl (by decide) rfl rfl (Nat.le_of_ble_eq_true rfl) (Nat.le_refl _) (Nat.le_refl _) ?_
  rw [g10]
  refine J_topil (z20) ?_
  refine J_if_eq (tgt := 45) hT dX9_limit_31 (by decide) (fun _ => ?_) (fun q => absurd (rfl) q)
  refine J_iconst (v := 0) hT dX9_limit_45 rfl ?_
  exact J_iret hT dX9_limit_46 rfl rfl (⟨rfl, rfl⟩) (Nat.le_refl _) (Nat.le_refl _)

set_option maxRecDepth 100000 in
set_option maxHeartbeats 4000000 in
theorem c_X9_release_ok {l : Launch} {Z : zZ} (hZ : zSt l Z) {μ : zMem} {σ : Nat → Nat → Int32} {π : Nat → Nat → Option Nat} {g : Nat → Nat → Int64} (hS : zRef μ π) {n : Nat} (hn : n < 40) (hV : RV n σ) {c : Nat} (hc : c < 12) (hh : σ 80 c ≠ 0) : zCt l Z mX9_release 8 0 0 [.ref 67, .int (nI c)] (zA4 μ σ π g) (fun r μ' => r = some (.int (nI (doF (kpS (zu σ 67 45 0) n 2 (nI c) 0 0) n).2)) ∧ ∃ g', μ' = zA4 μ ((doF (kpS (zu σ 67 45 0) n 2 (nI c) 0 0) n).1) π g' ∧ zge g g') := by
  refine zCt_of hZ mpX9_release (Nat.le_of_ble_eq_true rfl) (L := [some (.ref 67), some (.int (nI c))]) rfl (fun τ hY => ?_)
  have hT := hY.1
  have hV0 := hV.m 45 0 (by decide)
  have hk := kp_release hV0 hc
  refine J_aload_n (i := 0) hT dX9_release_0 rfl rfl ?_
  refine J_iload_n (i := 1) hT dX9_release_1 rfl rfl ?_
  refine R_callS1 hY dX9_release_2 mfX9_isCell mtX9_isCell kX9_286 (c_X9_isCell hZ) rfl (by decide) rfl rfl (Nat.le_of_ble_eq_true rfl) (Nat.le_refl _) (Nat.le_refl _) ?_
  refine J_topil (cell1 hc) ?_
  refine J_iload_n (i := 1) hT dX9_release_5 rfl rfl ?_
  refine R_callS1 hY dX9_release_6 mfX9_isCell mtX9_isCell kX9_286 (c_X9_isCell hZ) rfl (by decide) rfl rfl (Nat.le_of_ble_eq_true rfl) (Nat.le_refl _) (Nat.le_refl _) ?_
  refine J_topil (cell1 hc) ?_
  refine J_if_eq (tgt := 32) hT dX9_release_9 (by decide) (fun q => absurd q (by decide)) (fun _ => ?_)
  refine J_aload_n (i := 0) hT dX9_release_12 rfl rfl ?_
  refine R_getP hT fX9_47 rfl dX9_release_13 (rk hS) (rp_isHeld hS) ?_
  refine J_iload_n (i := 1) hT dX9_release_16 rfl rfl ?_
  refine R_zald hT dX9_release_17 (rk_isHeld hS) (rl_isHeld hS) (by first | exact ⟨rfl, by decide⟩ | exact zix_nI (by omega) (by decide) | assumption) ?_
  refine J_if_eq (tgt := 32) hT dX9_release_18 (by decide) (fun q => absurd q (hh)) (fun _ => ?_)
  refine J_aload_n (i := 0) hT dX9_release_21 rfl rfl ?_
  refine R_callV1 (ci := 9) hY dX9_release_22 mfX9_hasRoom miX9_hasRoom msX9_hasRoom kX9_292 ⟨by decide, rfl⟩ (rk hS) (c_X9_hasRoom hZ hS) rfl (by decide) rfl rfl (Nat.le_of_ble_eq_true rfl) (Nat.le_refl _) (Nat.le_refl _) ?_
  refine J_topil (hr1 hV.2.1 hn) ?_
  refine J_if_eq (tgt := 32) hT dX9_release_25 (by decide) (fun q => absurd q (by decide)) (fun _ => ?_)
  refine J_iconst (v := 1) hT dX9_release_28 rfl ?_
  refine J_goto (tgt := 33) hT dX9_release_29 (by decide) ?_
  refine J_iconst (v := 1) hT dX9_release_33 rfl ?_
  refine R_callV1 (ci := 9) hY dX9_release_34 mfX9_goes miX9_goes msX9_goes kX9_150 ⟨by decide, rfl⟩ (rk hS) (c_X9_goes hZ hS) rfl (by decide) rfl rfl (Nat.le_of_ble_eq_true rfl) (Nat.le_refl _) (Nat.le_refl _) ?_
  rw [g111]
  refine J_topil (z00) ?_
  refine J_if_eq (tgt := 51) hT dX9_release_37 (by decide) (fun q => absurd q (by decide)) (fun _ => ?_)
  refine J_aload_n (i := 0) hT dX9_release_40 rfl rfl ?_
  refine J_iconst (v := 2) hT dX9_release_41 rfl ?_
  refine J_iload_n (i := 1) hT dX9_release_42 rfl rfl ?_
  refine J_iconst (v := 0) hT dX9_release_43 rfl ?_
  refine J_iconst (v := 0) hT dX9_release_44 rfl ?_
  refine J_callV (ci := 9) hY dX9_release_45 mfX9_keeps miX9_keeps msX9_keeps kX9_296 ⟨by decide, rfl⟩ (rk hS) (c_X9_keeps hZ hS (σ := zu σ 67 45 0) hn hV0.2.1 hV0.ri hk.1 hk.2) rfl (by decide) rfl rfl (Nat.le_of_ble_eq_true rfl) (Nat.le_refl _) (Nat.le_refl _) (fun r1 μ1 hq1 => ?_)
  obtain ⟨rfl, g2, rfl, hg2⟩ := hq1
  refine J_goto (tgt := 52) hT dX9_release_48 (by decide) ?_
  exact J_iret hT dX9_release_52 rfl rfl (⟨rfl, g2, rfl, hg2⟩) (Nat.le_refl _) (Nat.le_refl _)

set_option maxRecDepth 100000 in
set_option maxHeartbeats 4000000 in
theorem c_X9_release_no1 {l : Launch} {Z : zZ} (hZ : zSt l Z) {μ : zMem} {σ : Nat → Nat → Int32} {π : Nat → Nat → Option Nat} {g : Nat → Nat → Int64} (hS : zRef μ π) {a : Int32} (hb : cellB a = false) : zCt l Z mX9_release 8 0 0 [.ref 67, .int a] (zA4 μ σ π g) (fun r μ' => r = some (.int 0) ∧ μ' = zA4 μ (zu σ 67 45 1) π g) := by
  refine zCt_of hZ mpX9_release (Nat.le_of_ble_eq_true rfl) (L := [some (.ref 67), some (.int a)]) rfl (fun τ hY => ?_)
  have hT := hY.1
  refine J_aload_n (i := 0) hT dX9_release_0 rfl rfl ?_
  refine J_iload_n (i := 1) hT dX9_release_1 rfl rfl ?_
  refine R_callS1 hY dX9_release_2 mfX9_isCell mtX9_isCell kX9_286 (c_X9_isCell hZ) rfl (by decide) rfl rfl (Nat.le_of_ble_eq_true rfl) (Nat.le_refl _) (Nat.le_refl _) ?_
  refine J_topil (cell0 hb) ?_
  refine J_iload_n (i := 1) hT dX9_release_5 rfl rfl ?_
  refine R_callS1 hY dX9_release_6 mfX9_isCell mtX9_isCell kX9_286 (c_X9_isCell hZ) rfl (by decide) rfl rfl (Nat.le_of_ble_eq_true rfl) (Nat.le_refl _) (Nat.le_refl _) ?_
  refine J_topil (cell0 hb) ?_
  refine J_if_eq (tgt := 32) hT dX9_release_9 (by decide) (fun _ => ?_) (fun q => absurd (rfl) q)
  refine J_iconst (v := 0) hT dX9_release_32 rfl ?_
  refine J_iconst (v := 1) hT dX9_release_33 rfl ?_
  refine R_callV1 (ci := 9) hY dX9_release_34 mfX9_goes miX9_goes msX9_goes kX9_150 ⟨by decide, rfl⟩ (rk hS) (c_X9_goes hZ hS) rfl (by decide) rfl rfl (Nat.le_of_ble_eq_true rfl) (Nat.le_refl _) (Nat.le_refl _) ?_
  rw [g0]
  refine J_topil (z10) ?_
  refine J_if_eq (tgt := 51) hT dX9_release_37 (by decide) (fun _ => ?_) (fun q => absurd (rfl) q)
  refine J_iconst (v := 0) hT dX9_release_51 rfl ?_
  exact J_iret hT dX9_release_52 rfl rfl (⟨rfl, rfl⟩) (Nat.le_refl _) (Nat.le_refl _)

set_option maxRecDepth 100000 in
set_option maxHeartbeats 4000000 in
theorem c_X9_release_no2 {l : Launch} {Z : zZ} (hZ : zSt l Z) {μ : zMem} {σ : Nat → Nat → Int32} {π : Nat → Nat → Option Nat} {g : Nat → Nat → Int64} (hS : zRef μ π) {n : Nat} (hV : RV n σ) {c : Nat} (hc : c < 12) (hb : σ 80 c = 0 ∨ ¬ n < 40) : zCt l Z mX9_release 8 0 0 [.ref 67, .int (nI c)] (zA4 μ σ π g) (fun r μ' => r = some (.int 0) ∧ μ' = zA4 μ (zu σ 67 45 2) π g) := by
  refine zCt_of hZ mpX9_release (Nat.le_of_ble_eq_true rfl) (L := [some (.ref 67), some (.int (nI c))]) rfl (fun τ hY => ?_)
  have hT := hY.1
  by_cases h1 : σ 80 c = 0
  · refine J_aload_n (i := 0) hT dX9_release_0 rfl rfl ?_
    refine J_iload_n (i := 1) hT dX9_release_1 rfl rfl ?_
    refine R_callS1 hY dX9_release_2 mfX9_isCell mtX9_isCell kX9_286 (c_X9_isCell hZ) rfl (by decide) rfl rfl (Nat.le_of_ble_eq_true rfl) (Nat.le_refl _) (Nat.le_refl _) ?_
    refine J_topil (cell1 hc) ?_
    refine J_iload_n (i := 1) hT dX9_release_5 rfl rfl ?_
    refine R_callS1 hY dX9_release_6 mfX9_isCell mtX9_isCell kX9_286 (c_X9_isCell hZ) rfl (by decide) rfl rfl (Nat.le_of_ble_eq_true rfl) (Nat.le_refl _) (Nat.le_refl _) ?_
    refine J_topil (cell1 hc) ?_
    refine J_if_eq (tgt := 32) hT dX9_release_9 (by decide) (fun q => absurd q (by decide)) (fun _ => ?_)
    refine J_aload_n (i := 0) hT dX9_release_12 rfl rfl ?_
    refine R_getP hT fX9_47 rfl dX9_release_13 (rk hS) (rp_isHeld hS) ?_
    refine J_iload_n (i := 1) hT dX9_release_16 rfl rfl ?_
    refine R_zald hT dX9_release_17 (rk_isHeld hS) (rl_isHeld hS) (by first | exact ⟨rfl, by decide⟩ | exact zix_nI (by omega) (by decide) | assumption) ?_
    refine J_if_eq (tgt := 32) hT dX9_release_18 (by decide) (fun _ => ?_) (fun q => absurd (h1) q)
    refine J_iconst (v := 0) hT dX9_release_32 rfl ?_
    refine J_iconst (v := 1) hT dX9_release_33 rfl ?_
    refine R_callV1 (ci := 9) hY dX9_release_34 mfX9_goes miX9_goes msX9_goes kX9_150 ⟨by decide, rfl⟩ (rk hS) (c_X9_goes hZ hS) rfl (by decide) rfl rfl (Nat.le_of_ble_eq_true rfl) (Nat.le_refl _) (Nat.le_refl _) ?_
    rw [g10]
    refine J_topil (z20) ?_
    refine J_if_eq (tgt := 51) hT dX9_release_37 (by decide) (fun _ => ?_) (fun q => absurd (rfl) q)
    refine J_iconst (v := 0) hT dX9_release_51 rfl ?_
    exact J_iret hT dX9_release_52 rfl rfl (⟨rfl, rfl⟩) (Nat.le_refl _) (Nat.le_refl _)
  · have h2 := hb.resolve_left h1
    refine J_aload_n (i := 0) hT dX9_release_0 rfl rfl ?_
    refine J_iload_n (i := 1) hT dX9_release_1 rfl rfl ?_
    refine R_callS1 hY dX9_release_2 mfX9_isCell mtX9_isCell kX9_286 (c_X9_isCell hZ) rfl (by decide) rfl rfl (Nat.le_of_ble_eq_true rfl) (Nat.le_refl _) (Nat.le_refl _) ?_
    refine J_topil (cell1 hc) ?_
    refine J_iload_n (i := 1) hT dX9_release_5 rfl rfl ?_
    refine R_callS1 hY dX9_release_6 mfX9_isCell mtX9_isCell kX9_286 (c_X9_isCell hZ) rfl (by decide) rfl rfl (Nat.le_of_ble_eq_true rfl) (Nat.le_refl _) (Nat.le_refl _) ?_
    refine J_topil (cell1 hc) ?_
    refine J_if_eq (tgt := 32) hT dX9_release_9 (by decide) (fun q => absurd q (by decide)) (fun _ => ?_)
    refine J_aload_n (i := 0) hT dX9_release_12 rfl rfl ?_
    refine R_getP hT fX9_47 rfl dX9_release_13 (rk hS) (rp_isHeld hS) ?_
    refine J_iload_n (i := 1) hT dX9_release_16 rfl rfl ?_
    refine R_zald hT dX9_release_17 (rk_isHeld hS) (rl_isHeld hS) (by first | exact ⟨rfl, by decide⟩ | exact zix_nI (by omega) (by decide) | assumption) ?_
    refine J_if_eq (tgt := 32) hT dX9_release_18 (by decide) (fun q => absurd q (h1)) (fun _ => ?_)
    refine J_aload_n (i := 0) hT dX9_release_21 rfl rfl ?_
    refine R_callV1 (ci := 9) hY dX9_release_22 mfX9_hasRoom miX9_hasRoom msX9_hasRoom kX9_292 ⟨by decide, rfl⟩ (rk hS) (c_X9_hasRoom hZ hS) rfl (by decide) rfl rfl (Nat.le_of_ble_eq_true rfl) (Nat.le_refl _) (Nat.le_refl _) ?_
    refine J_topil (hr0 hV.2.1 h2 hV.1) ?_
    refine J_if_eq (tgt := 32) hT dX9_release_25 (by decide) (fun _ => ?_) (fun q => absurd (rfl) q)
    refine J_iconst (v := 0) hT dX9_release_32 rfl ?_
    refine J_iconst (v := 1) hT dX9_release_33 rfl ?_
    refine R_callV1 (ci := 9) hY dX9_release_34 mfX9_goes miX9_goes msX9_goes kX9_150 ⟨by decide, rfl⟩ (rk hS) (c_X9_goes hZ hS) rfl (by decide) rfl rfl (Nat.le_of_ble_eq_true rfl) (Nat.le_refl _) (Nat.le_refl _) ?_
    rw [g10]
    refine J_topil (z20) ?_
    refine J_if_eq (tgt := 51) hT dX9_release_37 (by decide) (fun _ => ?_) (fun q => absurd (rfl) q)
    refine J_iconst (v := 0) hT dX9_release_51 rfl ?_
    exact J_iret hT dX9_release_52 rfl rfl (⟨rfl, rfl⟩) (Nat.le_refl _) (Nat.le_refl _)

set_option maxRecDepth 100000 in
set_option maxHeartbeats 4000000 in
theorem c_X9_mend_ok {l : Launch} {Z : zZ} (hZ : zSt l Z) {μ : zMem} {σ : Nat → Nat → Int32} {π : Nat → Nat → Option Nat} {g : Nat → Nat → Int64} (hS : zRef μ π) {n : Nat} (hn : n < 40) (hV : RV n σ) {c : Nat} (hc : c < 5) (hh : σ 92 c = 3) : zCt l Z mX9_mend 8 0 0 [.ref 67, .int (nI c)] (zA4 μ σ π g) (fun r μ' => r = some (.int (nI (doF (kpS (zu σ 67 45 0) n 9 (nI c) 0 0) n).2)) ∧ ∃ g', μ' = zA4 μ ((doF (kpS (zu σ 67 45 0) n 9 (nI c) 0 0) n).1) π g' ∧ zge g g') := by
  refine zCt_of hZ mpX9_mend (Nat.le_of_ble_eq_true rfl) (L := [some (.ref 67), some (.int (nI c))]) rfl (fun τ hY => ?_)
  have hT := hY.1
  have hV0 := hV.m 45 0 (by decide)
  have hk := kp_mend hV0 hc
  refine J_aload_n (i := 0) hT dX9_mend_0 rfl rfl ?_
  refine J_iload_n (i := 1) hT dX9_mend_1 rfl rfl ?_
  refine R_callS1 hY dX9_mend_2 mfX9_isService mtX9_isService kX9_300 (c_X9_isService hZ) rfl (by decide) rfl rfl (Nat.le_of_ble_eq_true rfl) (Nat.le_refl _) (Nat.le_refl _) ?_
  refine J_topil (svc1 hc) ?_
  refine J_iload_n (i := 1) hT dX9_mend_5 rfl rfl ?_
  refine R_callS1 hY dX9_mend_6 mfX9_isService mtX9_isService kX9_300 (c_X9_isService hZ) rfl (by decide) rfl rfl (Nat.le_of_ble_eq_true rfl) (Nat.le_refl _) (Nat.le_refl _) ?_
  refine J_topil (svc1 hc) ?_
  refine J_if_eq (tgt := 33) hT dX9_mend_9 (by decide) (fun q => absurd q (by decide)) (fun _ => ?_)
  refine J_aload_n (i := 0) hT dX9_mend_12 rfl rfl ?_
  refine R_getP hT fX9_83 rfl dX9_mend_13 (rk hS) (rp_state hS) ?_
  refine J_iload_n (i := 1) hT dX9_mend_16 rfl rfl ?_
  refine R_iald hT dX9_mend_17 (rk_state hS) (rl_state hS) (by first | exact ⟨rfl, by decide⟩ | exact zix_nI (by omega) (by decide) | assumption) ?_
  refine J_iconst (v := 3) hT dX9_mend_18 rfl ?_
  refine J_icmp_ne (tgt := 33) hT dX9_mend_19 (by decide) (fun q => absurd (hh) q) (fun _ => ?_)
  refine J_aload_n (i := 0) hT dX9_mend_22 rfl rfl ?_
  refine R_callV1 (ci := 9) hY dX9_mend_23 mfX9_hasRoom miX9_hasRoom msX9_hasRoom kX9_292 ⟨by decide, rfl⟩ (rk hS) (c_X9_hasRoom hZ hS) rfl (by decide) rfl rfl (Nat.le_of_ble_eq_true rfl) (Nat.le_refl _) (Nat.le_refl _) ?_
  refine J_topil (hr1 hV.2.1 hn) ?_
  refine J_if_eq (tgt := 33) hT dX9_mend_26 (by decide) (fun q => absurd q (by decide)) (fun _ => ?_)
  refine J_iconst (v := 1) hT dX9_mend_29 rfl ?_
  refine J_goto (tgt := 34) hT dX9_mend_30 (by decide) ?_
  refine J_iconst (v := 1) hT dX9_mend_34 rfl ?_
  refine R_callV1 (ci := 9) hY dX9_mend_35 mfX9_goes miX9_goes msX9_goes kX9_150 ⟨by decide, rfl⟩ (rk hS) (c_X9_goes hZ hS) rfl (by decide) rfl rfl (Nat.le_of_ble_eq_true rfl) (Nat.le_refl _) (Nat.le_refl _) ?_
  rw [g111]
  refine J_topil (z00) ?_
  refine J_if_eq (tgt := 53) hT dX9_mend_38 (by decide) (fun q => absurd q (by decide)) (fun _ => ?_)
  refine J_aload_n (i := 0) hT dX9_mend_41 rfl rfl ?_
  refine J_bipush (v := 9) hT dX9_mend_42 rfl ?_
  refine J_iload_n (i := 1) hT dX9_mend_44 rfl rfl ?_
  refine J_iconst (v := 0) hT dX9_mend_45 rfl ?_
  refine J_iconst (v := 0) hT dX9_mend_46 rfl ?_
  refine J_callV (ci := 9) hY dX9_mend_47 mfX9_keeps miX9_keeps msX9_keeps kX9_296 ⟨by decide, rfl⟩ (rk hS) (c_X9_keeps hZ hS (σ := zu σ 67 45 0) hn hV0.2.1 hV0.ri hk.1 hk.2) rfl (by decide) rfl rfl (Nat.le_of_ble_eq_true rfl) (Nat.le_refl _) (Nat.le_refl _) (fun r1 μ1 hq1 => ?_)
  obtain ⟨rfl, g2, rfl, hg2⟩ := hq1
  refine J_goto (tgt := 54) hT dX9_mend_50 (by decide) ?_
  exact J_iret hT dX9_mend_54 rfl rfl (⟨rfl, g2, rfl, hg2⟩) (Nat.le_refl _) (Nat.le_refl _)

set_option maxRecDepth 100000 in
set_option maxHeartbeats 4000000 in
theorem c_X9_mend_no1 {l : Launch} {Z : zZ} (hZ : zSt l Z) {μ : zMem} {σ : Nat → Nat → Int32} {π : Nat → Nat → Option Nat} {g : Nat → Nat → Int64} (hS : zRef μ π) {a : Int32} (hb : svcB a = false) : zCt l Z mX9_mend 8 0 0 [.ref 67, .int a] (zA4 μ σ π g) (fun r μ' => r = some (.int 0) ∧ μ' = zA4 μ (zu σ 67 45 1) π g) := by
  refine zCt_of hZ mpX9_mend (Nat.le_of_ble_eq_true rfl) (L := [some (.ref 67), some (.int a)]) rfl (fun τ hY => ?_)
  have hT := hY.1
  refine J_aload_n (i := 0) hT dX9_mend_0 rfl rfl ?_
  refine J_iload_n (i := 1) hT dX9_mend_1 rfl rfl ?_
  refine R_callS1 hY dX9_mend_2 mfX9_isService mtX9_isService kX9_300 (c_X9_isService hZ) rfl (by decide) rfl rfl (Nat.le_of_ble_eq_true rfl) (Nat.le_refl _) (Nat.le_refl _) ?_
  refine J_topil (svc0 hb) ?_
  refine J_iload_n (i := 1) hT dX9_mend_5 rfl rfl ?_
  refine R_callS1 hY dX9_mend_6 mfX9_isService mtX9_isService kX9_300 (c_X9_isService hZ) rfl (by decide) rfl rfl (Nat.le_of_ble_eq_true rfl) (Nat.le_refl _) (Nat.le_refl _) ?_
  refine J_topil (svc0 hb) ?_
  refine J_if_eq (tgt := 33) hT dX9_mend_9 (by decide) (fun _ => ?_) (fun q => absurd (rfl) q)
  refine J_iconst (v := 0) hT dX9_mend_33 rfl ?_
  refine J_iconst (v := 1) hT dX9_mend_34 rfl ?_
  refine R_callV1 (ci := 9) hY dX9_mend_35 mfX9_goes miX9_goes msX9_goes kX9_150 ⟨by decide, rfl⟩ (rk hS) (c_X9_goes hZ hS) rfl (by decide) rfl rfl (Nat.le_of_ble_eq_true rfl) (Nat.le_refl _) (Nat.le_refl _) ?_
  rw [g0]
  refine J_topil (z10) ?_
  refine J_if_eq (tgt := 53) hT dX9_mend_38 (by decide) (fun _ => ?_) (fun q => absurd (rfl) q)
  refine J_iconst (v := 0) hT dX9_mend_53 rfl ?_
  exact J_iret hT dX9_mend_54 rfl rfl (⟨rfl, rfl⟩) (Nat.le_refl _) (Nat.le_refl _)

set_option maxRecDepth 100000 in
set_option maxHeartbeats 4000000 in
theorem c_X9_mend_no2 {l : Launch} {Z : zZ} (hZ : zSt l Z) {μ : zMem} {σ : Nat → Nat → Int32} {π : Nat → Nat → Option Nat} {g : Nat → Nat → Int64} (hS : zRef μ π) {n : Nat} (hV : RV n σ) {c : Nat} (hc : c < 5) (hb : σ 92 c ≠ 3 ∨ ¬ n < 40) : zCt l Z mX9_mend 8 0 0 [.ref 67, .int (nI c)] (zA4 μ σ π g) (fun r μ' => r = some (.int 0) ∧ μ' = zA4 μ (zu σ 67 45 2) π g) := by
  refine zCt_of hZ mpX9_mend (Nat.le_of_ble_eq_true rfl) (L := [some (.ref 67), some (.int (nI c))]) rfl (fun τ hY => ?_)
  have hT := hY.1
  by_cases h1 : σ 92 c = 3
  · have h2 := hb.resolve_left (fun q => q h1)
    refine J_aload_n (i := 0) hT dX9_mend_0 rfl rfl ?_
    refine J_iload_n (i := 1) hT dX9_mend_1 rfl rfl ?_
    refine R_callS1 hY dX9_mend_2 mfX9_isService mtX9_isService kX9_300 (c_X9_isService hZ) rfl (by decide) rfl rfl (Nat.le_of_ble_eq_true rfl) (Nat.le_refl _) (Nat.le_refl _) ?_
    refine J_topil (svc1 hc) ?_
    refine J_iload_n (i := 1) hT dX9_mend_5 rfl rfl ?_
    refine R_callS1 hY dX9_mend_6 mfX9_isService mtX9_isService kX9_300 (c_X9_isService hZ) rfl (by decide) rfl rfl (Nat.le_of_ble_eq_true rfl) (Nat.le_refl _) (Nat.le_refl _) ?_
    refine J_topil (svc1 hc) ?_
    refine J_if_eq (tgt := 33) hT dX9_mend_9 (by decide) (fun q => absurd q (by decide)) (fun _ => ?_)
    refine J_aload_n (i := 0) hT dX9_mend_12 rfl rfl ?_
    refine R_getP hT fX9_83 rfl dX9_mend_13 (rk hS) (rp_state hS) ?_
    refine J_iload_n (i := 1) hT dX9_mend_16 rfl rfl ?_
    refine R_iald hT dX9_mend_17 (rk_state hS) (rl_state hS) (by first | exact ⟨rfl, by decide⟩ | exact zix_nI (by omega) (by decide) | assumption) ?_
    refine J_iconst (v := 3) hT dX9_mend_18 rfl ?_
    refine J_icmp_ne (tgt := 33) hT dX9_mend_19 (by decide) (fun q => absurd (h1) q) (fun _ => ?_)
    refine J_aload_n (i := 0) hT dX9_mend_22 rfl rfl ?_
    refine R_callV1 (ci := 9) hY dX9_mend_23 mfX9_hasRoom miX9_hasRoom msX9_hasRoom kX9_292 ⟨by decide, rfl⟩ (rk hS) (c_X9_hasRoom hZ hS) rfl (by decide) rfl rfl (Nat.le_of_ble_eq_true rfl) (Nat.le_refl _) (Nat.le_refl _) ?_
    refine J_topil (hr0 hV.2.1 h2 hV.1) ?_
    refine J_if_eq (tgt := 33) hT dX9_mend_26 (by decide) (fun _ => ?_) (fun q => absurd (rfl) q)
    refine J_iconst (v := 0) hT dX9_mend_33 rfl ?_
    refine J_iconst (v := 1) hT dX9_mend_34 rfl ?_
    refine R_callV1 (ci := 9) hY dX9_mend_35 mfX9_goes miX9_goes msX9_goes kX9_150 ⟨by decide, rfl⟩ (rk hS) (c_X9_goes hZ hS) rfl (by decide) rfl rfl (Nat.le_of_ble_eq_true rfl) (Nat.le_refl _) (Nat.le_refl _) ?_
    rw [g10]
    refine J_topil (z20) ?_
    refine J_if_eq (tgt := 53) hT dX9_mend_38 (by decide) (fun _ => ?_) (fun q => absurd (rfl) q)
    refine J_iconst (v := 0) hT dX9_mend_53 rfl ?_
    exact J_iret hT dX9_mend_54 rfl rfl (⟨rfl, rfl⟩) (Nat.le_refl _) (Nat.le_refl _)
  · refine J_aload_n (i := 0) hT dX9_mend_0 rfl rfl ?_
    refine J_iload_n (i := 1) hT dX9_mend_1 rfl rfl ?_
    refine R_callS1 hY dX9_mend_2 mfX9_isService mtX9_isService kX9_300 (c_X9_isService hZ) rfl (by decide) rfl rfl (Nat.le_of_ble_eq_true rfl) (Nat.le_refl _) (Nat.le_refl _) ?_
    refine J_topil (svc1 hc) ?_
    refine J_iload_n (i := 1) hT dX9_mend_5 rfl rfl ?_
    refine R_callS1 hY dX9_mend_6 mfX9_isService mtX9_isService kX9_300 (c_X9_isService hZ) rfl (by decide) rfl rfl (Nat.le_of_ble_eq_true rfl) (Nat.le_refl _) (Nat.le_refl _) ?_
    refine J_topil (svc1 hc) ?_
    refine J_if_eq (tgt := 33) hT dX9_mend_9 (by decide) (fun q => absurd q (by decide)) (fun _ => ?_)
    refine J_aload_n (i := 0) hT dX9_mend_12 rfl rfl ?_
    refine R_getP hT fX9_83 rfl dX9_mend_13 (rk hS) (rp_state hS) ?_
    refine J_iload_n (i := 1) hT dX9_mend_16 rfl rfl ?_
    refine R_iald hT dX9_mend_17 (rk_state hS) (rl_state hS) (by first | exact ⟨rfl, by decide⟩ | exact zix_nI (by omega) (by decide) | assumption) ?_
    refine J_iconst (v := 3) hT dX9_mend_18 rfl ?_
    refine J_icmp_ne (tgt := 33) hT dX9_mend_19 (by decide) (fun _ => ?_) (fun q => absurd q (h1))
    refine J_iconst (v := 0) hT dX9_mend_33 rfl ?_
    refine J_iconst (v := 1) hT dX9_mend_34 rfl ?_
    refine R_callV1 (ci := 9) hY dX9_mend_35 mfX9_goes miX9_goes msX9_goes kX9_150 ⟨by decide, rfl⟩ (rk hS) (c_X9_goes hZ hS) rfl (by decide) rfl rfl (Nat.le_of_ble_eq_true rfl) (Nat.le_refl _) (Nat.le_refl _) ?_
    rw [g10]
    refine J_topil (z20) ?_
    refine J_if_eq (tgt := 53) hT dX9_mend_38 (by decide) (fun _ => ?_) (fun q => absurd (rfl) q)
    refine J_iconst (v := 0) hT dX9_mend_53 rfl ?_
    exact J_iret hT dX9_mend_54 rfl rfl (⟨rfl, rfl⟩) (Nat.le_refl _) (Nat.le_refl _)
