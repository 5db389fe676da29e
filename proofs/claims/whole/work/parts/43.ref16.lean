
def cellB (a : Int32) : Bool := decide (0 ≤ a) && decide (a < 12)
def svcB (a : Int32) : Bool := decide (0 ≤ a) && decide (a < 5)
theorem inB {c n : Nat} (hc : c < n) (hn : n ≤ 12) : (decide (0 ≤ nI c) && decide (nI c < nI n)) = true := by
  rw [Bool.and_eq_true, decide_eq_true_eq, decide_eq_true_eq]
  exact ⟨nI_le (a := 0) (by omega) (by omega), nI_lt hc (by omega)⟩
theorem cell1 {c : Nat} (hc : c < 12) : zbi (decide (0 ≤ nI c) && decide (nI c < 12)) = 1 := by rw [show (decide (0 ≤ nI c) && decide (nI c < 12)) = true from inB (n := 12) hc (by omega)]; rfl
theorem svc1 {c : Nat} (hc : c < 5) : zbi (decide (0 ≤ nI c) && decide (nI c < 5)) = 1 := by rw [show (decide (0 ≤ nI c) && decide (nI c < 5)) = true from inB (n := 5) hc (by omega)]; rfl
theorem cell0 {a : Int32} (h : cellB a = false) : zbi (decide (0 ≤ a) && decide (a < 12)) = 0 := by rw [show (decide (0 ≤ a) && decide (a < 12)) = false from h]; rfl
theorem svc0 {a : Int32} (h : svcB a = false) : zbi (decide (0 ≤ a) && decide (a < 5)) = 0 := by rw [show (decide (0 ≤ a) && decide (a < 5)) = false from h]; rfl
theorem g111 : goesN 1 1 1 = 0 := rfl
theorem g011 : goesN 0 1 1 = 1 := rfl
theorem z00 : zbi (decide ((0 : Int32) = 0)) = 1 := rfl
theorem z10 : zbi (decide ((1 : Int32) = 0)) = 0 := rfl
theorem zt0 {t : Int32} (h : t ≠ 0) : zbi (decide (t = 0)) = 0 := by rw [decide_eq_false h]; rfl
theorem hr1 {S : Nat → Nat → Int32} {n : Nat} (h : S 67 42 = nI n) (hn : n < 40) : zbi (decide (S 67 42 < 40)) = 1 := by rw [h, decide_eq_true (show nI n < (40 : Int32) from nI_lt (b := 40) hn (by decide))]; rfl
theorem hr0 {S : Nat → Nat → Int32} {n : Nat} (h : S 67 42 = nI n) (hn : ¬ n < 40) (h2 : n ≤ 40) : zbi (decide (S 67 42 < 40)) = 0 := by
  have : n = 40 := by omega
  subst this
  rw [h]; rfl

set_option maxRecDepth 100000 in
set_option maxHeartbeats 4000000 in
theorem c_X9_value_ok {l : Launch} {Z : zZ} (hZ : zSt l Z) {μ : zMem} {σ : Nat → Nat → Int32} {π : Nat → Nat → Option Nat} {g : Nat → Nat → Int64} (hS : zRef μ π) {c : Nat} (hc : c < 12) : zCt l Z mX9_value 2 0 0 [.ref 67, .int (nI c)] (zA4 μ σ π g) (fun r μ' => r = some (.int (σ 88 c)) ∧ μ' = zA4 μ (zu σ 67 45 0) π g) := by
  refine zCt_of hZ mpX9_value (Nat.le_of_ble_eq_true rfl) (L := [some (.ref 67), some (.int (nI c))]) rfl (fun τ hY => ?_)
  have hT := hY.1
  refine J_aload_n (i := 0) hT dX9_value_0 rfl rfl ?_
  refine J_iload_n (i := 1) hT dX9_value_1 rfl rfl ?_
  refine R_callS1 hY dX9_value_2 mfX9_isCell mtX9_isCell kX9_286 (c_X9_isCell hZ) rfl (by decide) rfl rfl (Nat.le_of_ble_eq_true rfl) (Nat.le_refl _) (Nat.le_refl _) ?_
  refine J_topil (cell1 hc) ?_
  refine J_iconst (v := 1) hT dX9_value_5 rfl ?_
  refine J_iconst (v := 1) hT dX9_value_6 rfl ?_
  refine R_callV1 (ci := 9) hY dX9_value_7 mfX9_goes miX9_goes msX9_goes kX9_150 ⟨by decide, rfl⟩ (rk hS) (c_X9_goes hZ hS) rfl (by decide) rfl rfl (Nat.le_of_ble_eq_true rfl) (Nat.le_refl _) (Nat.le_refl _) ?_
  rw [g111]
  refine J_topil (z00) ?_
  refine J_if_eq (tgt := 22) hT dX9_value_10 (by decide) (fun q => absurd q (by decide)) (fun _ => ?_)
  refine J_aload_n (i := 0) hT dX9_value_13 rfl rfl ?_
  refine R_getP hT fX9_71 rfl dX9_value_14 (rk hS) (rp_value hS) ?_
  refine J_iload_n (i := 1) hT dX9_value_17 rfl rfl ?_
  refine R_iald hT dX9_value_18 (rk_value hS) (rl_value hS) (by first | exact ⟨rfl, by decide⟩ | exact zix_nI (by omega) (by decide) | assumption) ?_
  refine J_goto (tgt := 23) hT dX9_value_19 (by decide) ?_
  exact J_iret hT dX9_value_23 rfl rfl (⟨by rfl, rfl⟩) (Nat.le_refl _) (Nat.le_refl _)

set_option maxRecDepth 100000 in
set_option maxHeartbeats 4000000 in
theorem c_X9_value_no {l : Launch} {Z : zZ} (hZ : zSt l Z) {μ : zMem} {σ : Nat → Nat → Int32} {π : Nat → Nat → Option Nat} {g : Nat → Nat → Int64} (hS : zRef μ π) {a : Int32} (hb : cellB a = false) : zCt l Z mX9_value 2 0 0 [.ref 67, .int a] (zA4 μ σ π g) (fun r μ' => r = some (.int 0) ∧ μ' = zA4 μ (zu σ 67 45 1) π g) := by
  refine zCt_of hZ mpX9_value (Nat.le_of_ble_eq_true rfl) (L := [some (.ref 67), some (.int a)]) rfl (fun τ hY => ?_)
  have hT := hY.1
  refine J_aload_n (i := 0) hT dX9_value_0 rfl rfl ?_
  refine J_iload_n (i := 1) hT dX9_value_1 rfl rfl ?_
  refine R_callS1 hY dX9_value_2 mfX9_isCell mtX9_isCell kX9_286 (c_X9_isCell hZ) rfl (by decide) rfl rfl (Nat.le_of_ble_eq_true rfl) (Nat.le_refl _) (Nat.le_refl _) ?_
  refine J_topil (cell0 hb) ?_
  refine J_iconst (v := 1) hT dX9_value_5 rfl ?_
  refine J_iconst (v := 1) hT dX9_value_6 rfl ?_
  refine R_callV1 (ci := 9) hY dX9_value_7 mfX9_goes miX9_goes msX9_goes kX9_150 ⟨by decide, rfl⟩ (rk hS) (c_X9_goes hZ hS) rfl (by decide) rfl rfl (Nat.le_of_ble_eq_true rfl) (Nat.le_refl _) (Nat.le_refl _) ?_
  rw [g011]
  refine J_topil (z10) ?_
  refine J_if_eq (tgt := 22) hT dX9_value_10 (by decide) (fun _ => ?_) (fun q => absurd (rfl) q)
  refine J_iconst (v := 0) hT dX9_value_22 rfl ?_
  exact J_iret hT dX9_value_23 rfl rfl (⟨rfl, rfl⟩) (Nat.le_refl _) (Nat.le_refl _)

set_option maxRecDepth 100000 in
set_option maxHeartbeats 4000000 in
theorem c_X9_depth_ok {l : Launch} {Z : zZ} (hZ : zSt l Z) {μ : zMem} {σ : Nat → Nat → Int32} {π : Nat → Nat → Option Nat} {g : Nat → Nat → Int64} (hS : zRef μ π) {c : Nat} (hc : c < 12) : zCt l Z mX9_depth 2 0 0 [.ref 67, .int (nI c)] (zA4 μ σ π g) (fun r μ' => r = some (.int (σ 79 c)) ∧ μ' = zA4 μ (zu σ 67 45 0) π g) := by
  refine zCt_of hZ mpX9_depth (Nat.le_of_ble_eq_true rfl) (L := [some (.ref 67), some (.int (nI c))]) rfl (fun τ hY => ?_)
  have hT := hY.1
  refine J_aload_n (i := 0) hT dX9_depth_0 rfl rfl ?_
  refine J_iload_n (i := 1) hT dX9_depth_1 rfl rfl ?_
  refine R_callS1 hY dX9_depth_2 mfX9_isCell mtX9_isCell kX9_286 (c_X9_isCell hZ) rfl (by decide) rfl rfl (Nat.le_of_ble_eq_true rfl) (Nat.le_refl _) (Nat.le_refl _) ?_
  refine J_topil (cell1 hc) ?_
  refine J_iconst (v := 1) hT dX9_depth_5 rfl ?_
  refine J_iconst (v := 1) hT dX9_depth_6 rfl ?_
  refine R_callV1 (ci := 9) hY dX9_depth_7 mfX9_goes miX9_goes msX9_goes kX9_150 ⟨by decide, rfl⟩ (rk hS) (c_X9_goes hZ hS) rfl (by decide) rfl rfl (Nat.le_of_ble_eq_true rfl) (Nat.le_refl _) (Nat.le_refl _) ?_
  rw [g111]
  refine J_topil (z00) ?_
  refine J_if_eq (tgt := 22) hT dX9_depth_10 (by decide) (fun q => absurd q (by decide)) (fun _ => ?_)
  refine J_aload_n (i := 0) hT dX9_depth_13 rfl rfl ?_
  refine R_getP hT fX9_44 rfl dX9_depth_14 (rk hS) (rp_depth hS) ?_
  refine J_iload_n (i := 1) hT dX9_depth_17 rfl rfl ?_
  refine R_iald hT dX9_depth_18 (rk_depth hS) (rl_depth hS) (by first | exact ⟨rfl, by decide⟩ | exact zix_nI (by omega) (by decide) | assumption) ?_
  refine J_goto (tgt := 23) hT dX9_depth_19 (by decide) ?_
  exact J_iret hT dX9_depth_23 rfl rfl (⟨by rfl, rfl⟩) (Nat.le_refl _) (Nat.le_refl _)

set_option maxRecDepth 100000 in
set_option maxHeartbeats 4000000 in
theorem c_X9_depth_no {l : Launch} {Z : zZ} (hZ : zSt l Z) {μ : zMem} {σ : Nat → Nat → Int32} {π : Nat → Nat → Option Nat} {g : Nat → Nat → Int64} (hS : zRef μ π) {a : Int32} (hb : cellB a = false) : zCt l Z mX9_depth 2 0 0 [.ref 67, .int a] (zA4 μ σ π g) (fun r μ' => r = some (.int 0) ∧ μ' = zA4 μ (zu σ 67 45 1) π g) := by
  refine zCt_of hZ mpX9_depth (Nat.le_of_ble_eq_true rfl) (L := [some (.ref 67), some (.int a)]) rfl (fun τ hY => ?_)
  have hT := hY.1
  refine J_aload_n (i := 0) hT dX9_depth_0 rfl rfl ?_
  refine J_iload_n (i := 1) hT dX9_depth_1 rfl rfl ?_
  refine R_callS1 hY dX9_depth_2 mfX9_isCell mtX9_isCell kX9_286 (c_X9_isCell hZ) rfl (by decide) rfl rfl (Nat.le_of_ble_eq_true rfl) (Nat.le_refl _) (Nat.le_refl _) ?_
  refine J_topil (cell0 hb) ?_
  refine J_iconst (v := 1) hT dX9_depth_5 rfl ?_
  refine J_iconst (v := 1) hT dX9_depth_6 rfl ?_
  refine R_callV1 (ci := 9) hY dX9_depth_7 mfX9_goes miX9_goes msX9_goes kX9_150 ⟨by decide, rfl⟩ (rk hS) (c_X9_goes hZ hS) rfl (by decide) rfl rfl (Nat.le_of_ble_eq_true rfl) (Nat.le_refl _) (Nat.le_refl _) ?_
  rw [g011]
  refine J_topil (z10) ?_
  refine J_if_eq (tgt := 22) hT dX9_depth_10 (by decide) (fun _ => ?_) (fun q => absurd (rfl) q)
  refine J_iconst (v := 0) hT dX9_depth_22 rfl ?_
  exact J_iret hT dX9_depth_23 rfl rfl (⟨rfl, rfl⟩) (Nat.le_refl _) (Nat.le_refl _)

set_option maxRecDepth 100000 in
set_option maxHeartbeats 4000000 in
theorem c_X9_state_ok {l : Launch} {Z : zZ} (hZ : zSt l Z) {μ : zMem} {σ : Nat → Nat → Int32} {π : Nat → Nat → Option Nat} {g : Nat → Nat → Int64} (hS : zRef μ π) {c : Nat} (hc : c < 5) : zCt l Z mX9_state 2 0 0 [.ref 67, .int (nI c)] (zA4 μ σ π g) (fun r μ' => r = some (.int (σ 92 c)) ∧ μ' = zA4 μ (zu σ 67 45 0) π g) := by
  refine zCt_of hZ mpX9_state (Nat.le_of_ble_eq_true rfl) (L := [some (.ref 67), some (.int (nI c))]) rfl (fun τ hY => ?_)
  have hT := hY.1
  refine J_aload_n (i := 0) hT dX9_state_0 rfl rfl ?_
  refine J_iload_n (i := 1) hT dX9_state_1 rfl rfl ?_
  refine R_callS1 hY dX9_state_2 mfX9_isService mtX9_isService kX9_300 (c_X9_isService hZ) rfl (by decide) rfl rfl (Nat.le_of_ble_eq_true rfl) (Nat.le_refl _) (Nat.le_refl _) ?_
  refine J_topil (svc1 hc) ?_
  refine J_iconst (v := 1) hT dX9_state_5 rfl ?_
  refine J_iconst (v := 1) hT dX9_state_6 rfl ?_
  refine R_callV1 (ci := 9) hY dX9_state_7 mfX9_goes miX9_goes msX9_goes kX9_150 ⟨by decide, rfl⟩ (rk hS) (c_X9_goes hZ hS) rfl (by decide) rfl rfl (Nat.le_of_ble_eq_true rfl) (Nat.le_refl _) (Nat.le_refl _) ?_
  rw [g111]
  refine J_topil (z00) ?_
  refine J_if_eq (tgt := 22) hT dX9_state_10 (by decide) (fun q => absurd q (by decide)) (fun _ => ?_)
  refine J_aload_n (i := 0) hT dX9_state_13 rfl rfl ?_
  refine R_getP hT fX9_83 rfl dX9_state_14 (rk hS) (rp_state hS) ?_
  refine J_iload_n (i := 1) hT dX9_state_17 rfl rfl ?_
  refine R_iald hT dX9_state_18 (rk_state hS) (rl_state hS) (by first | exact ⟨rfl, by decide⟩ | exact zix_nI (by omega) (by decide) | assumption) ?_
  refine J_goto (tgt := 23) hT dX9_state_19 (by decide) ?_
  exact J_iret hT dX9_state_23 rfl rfl (⟨by rfl, rfl⟩) (Nat.le_refl _) (Nat.le_refl _)

set_option maxRecDepth 100000 in
set_option maxHeartbeats 4000000 in
theorem c_X9_state_no {l : Launch} {Z : zZ} (hZ : zSt l Z) {μ : zMem} {σ : Nat → Nat → Int32} {π : Nat → Nat → Option Nat} {g : Nat → Nat → Int64} (hS : zRef μ π) {a : Int32} (hb : svcB a = false) : zCt l Z mX9_state 2 0 0 [.ref 67, .int a] (zA4 μ σ π g) (fun r μ' => r = some (.int 0) ∧ μ' = zA4 μ (zu σ 67 45 1) π g) := by
  refine zCt_of hZ mpX9_state (Nat.le_of_ble_eq_true rfl) (L := [some (.ref 67), some (.int a)]) rfl (fun τ hY => ?_)
  have hT := hY.1
  refine J_aload_n (i := 0) hT dX9_state_0 rfl rfl ?_
  refine J_iload_n (i := 1) hT dX9_state_1 rfl rfl ?_
  refine R_callS1 hY dX9_state_2 mfX9_isService mtX9_isService kX9_300 (c_X9_isService hZ) rfl (by decide) rfl rfl (Nat.le_of_ble_eq_true rfl) (Nat.le_refl _) (Nat.le_refl _) ?_
  refine J_topil (svc0 hb) ?_
  refine J_iconst (v := 1) hT dX9_state_5 rfl ?_
  refine J_iconst (v := 1) hT dX9_state_6 rfl ?_
  refine R_callV1 (ci := 9) hY dX9_state_7 mfX9_goes miX9_goes msX9_goes kX9_150 ⟨by decide, rfl⟩ (rk hS) (c_X9_goes hZ hS) rfl (by decide) rfl rfl (Nat.le_of_ble_eq_true rfl) (Nat.le_refl _) (Nat.le_refl _) ?_
  rw [g011]
  refine J_topil (z10) ?_
  refine J_if_eq (tgt := 22) hT dX9_state_10 (by decide) (fun _ => ?_) (fun q => absurd (rfl) q)
  refine J_iconst (v := 0) hT dX9_state_22 rfl ?_
  exact J_iret hT dX9_state_23 rfl rfl (⟨rfl, rfl⟩) (Nat.le_refl _) (Nat.le_refl _)

set_option maxRecDepth 100000 in
set_option maxHeartbeats 4000000 in
theorem c_X9_load_ok {l : Launch} {Z : zZ} (hZ : zSt l Z) {μ : zMem} {σ : Nat → Nat → Int32} {π : Nat → Nat → Option Nat} {g : Nat → Nat → Int64} (hS : zRef μ π) {c : Nat} (hc : c < 5) : zCt l Z mX9_load 2 0 0 [.ref 67, .int (nI c)] (zA4 μ σ π g) (fun r μ' => r = some (.int (σ 95 c)) ∧ μ' = zA4 μ (zu σ 67 45 0) π g) := by
  refine zCt_of hZ mpX9_load (Nat.le_of_ble_eq_true rfl) (L := [some (.ref 67), some (.int (nI c))]) rfl (fun τ hY => ?_)
  have hT := hY.1
  refine J_aload_n (i := 0) hT dX9_load_0 rfl rfl ?_
  refine J_iload_n (i := 1) hT dX9_load_1 rfl rfl ?_
  refine R_callS1 hY dX9_load_2 mfX9_isService mtX9_isService kX9_300 (c_X9_isService hZ) rfl (by decide) rfl rfl (Nat.le_of_ble_eq_true rfl) (Nat.le_refl _) (Nat.le_refl _) ?_
  refine J_topil (svc1 hc) ?_
  refine J_iconst (v := 1) hT dX9_load_5 rfl ?_
  refine J_iconst (v := 1) hT dX9_load_6 rfl ?_
  refine R_callV1 (ci := 9) hY dX9_load_7 mfX9_goes miX9_goes msX9_goes kX9_150 ⟨by decide, rfl⟩ (rk hS) (c_X9_goes hZ hS) rfl (by decide) rfl rfl (Nat.le_of_ble_eq_true rfl) (Nat.le_refl _) (Nat.le_refl _) ?_
  rw [g111]
  refine J_topil (z00) ?_
  refine J_if_eq (tgt := 22) hT dX9_load_10 (by decide) (fun q => absurd q (by decide)) (fun _ => ?_)
  refine J_aload_n (i := 0) hT dX9_load_13 rfl rfl ?_
  refine R_getP hT fX9_92 rfl dX9_load_14 (rk hS) (rp_load hS) ?_
  refine J_iload_n (i := 1) hT dX9_load_17 rfl rfl ?_
  refine R_iald hT dX9_load_18 (rk_load hS) (rl_load hS) (by first | exact ⟨rfl, by decide⟩ | exact zix_nI (by omega) (by decide) | assumption) ?_
  refine J_goto (tgt := 23) hT dX9_load_19 (by decide) ?_
  exact J_iret hT dX9_load_23 rfl rfl (⟨by rfl, rfl⟩) (Nat.le_refl _) (Nat.le_refl _)

set_option maxRecDepth 100000 in
set_option maxHeartbeats 4000000 in
theorem c_X9_load_no {l : Launch} {Z : zZ} (hZ : zSt l Z) {μ : zMem} {σ : Nat → Nat → Int32} {π : Nat → Nat → Option Nat} {g : Nat → Nat → Int64} (hS : zRef μ π) {a : Int32} (hb : svcB a = false) : zCt l Z mX9_load 2 0 0 [.ref 67, .int a] (zA4 μ σ π g) (fun r μ' => r = some (.int 0) ∧ μ' = zA4 μ (zu σ 67 45 1) π g) := by
  refine zCt_of hZ mpX9_load (Nat.le_of_ble_eq_true rfl) (L := [some (.ref 67), some (.int a)]) rfl (fun τ hY => ?_)
  have hT := hY.1
  refine J_aload_n (i := 0) hT dX9_load_0 rfl rfl ?_
  refine J_iload_n (i := 1) hT dX9_load_1 rfl rfl ?_
  refine R_callS1 hY dX9_load_2 mfX9_isService mtX9_isService kX9_300 (c_X9_isService hZ) rfl (by decide) rfl rfl (Nat.le_of_ble_eq_true rfl) (Nat.le_refl _) (Nat.le_refl _) ?_
  refine J_topil (svc0 hb) ?_
  refine J_iconst (v := 1) hT dX9_load_5 rfl ?_
  refine J_iconst (v := 1) hT dX9_load_6 rfl ?_
  refine R_callV1 (ci := 9) hY dX9_load_7 mfX9_goes miX9_goes msX9_goes kX9_150 ⟨by decide, rfl⟩ (rk hS) (c_X9_goes hZ hS) rfl (by decide) rfl rfl (Nat.le_of_ble_eq_true rfl) (Nat.le_refl _) (Nat.le_refl _) ?_
  rw [g011]
  refine J_topil (z10) ?_
  refine J_if_eq (tgt := 22) hT dX9_load_10 (by decide) (fun _ => ?_) (fun q => absurd (rfl) q)
  refine J_iconst (v := 0) hT dX9_load_22 rfl ?_
  exact J_iret hT dX9_load_23 rfl rfl (⟨rfl, rfl⟩) (Nat.le_refl _) (Nat.le_refl _)

set_option maxRecDepth 100000 in
set_option maxHeartbeats 4000000 in
theorem c_X9_told_ok {l : Launch} {Z : zZ} (hZ : zSt l Z) {μ : zMem} {σ : Nat → Nat → Int32} {π : Nat → Nat → Option Nat} {g : Nat → Nat → Int64} (hS : zRef μ π) {c : Nat} (hc : c < 5) : zCt l Z mX9_told 2 0 0 [.ref 67, .int (nI c)] (zA4 μ σ π g) (fun r μ' => r = some (.int (σ 96 c)) ∧ μ' = zA4 μ (zu σ 67 45 0) π g) := by
  refine zCt_of hZ mpX9_told (Nat.le_of_ble_eq_true rfl) (L := [some (.ref 67), some (.int (nI c))]) rfl (fun τ hY => ?_)
  have hT := hY.1
  refine J_aload_n (i := 0) hT dX9_told_0 rfl rfl ?_
  refine J_iload_n (i := 1) hT dX9_told_1 rfl rfl ?_
  refine R_callS1 hY dX9_told_2 mfX9_isService mtX9_isService kX9_300 (c_X9_isService hZ) rfl (by decide) rfl rfl (Nat.le_of_ble_eq_true rfl) (Nat.le_refl _) (Nat.le_refl _) ?_
  refine J_topil (svc1 hc) ?_
  refine J_iconst (v := 1) hT dX9_told_5 rfl ?_
  refine J_iconst (v := 1) hT dX9_told_6 rfl ?_
  refine R_callV1 (ci := 9) hY dX9_told_7 mfX9_goes miX9_goes msX9_goes kX9_150 ⟨by decide, rfl⟩ (rk hS) (c_X9_goes hZ hS) rfl (by decide) rfl rfl (Nat.le_of_ble_eq_true rfl) (Nat.le_refl _) (Nat.le_refl _) ?_
  rw [g111]
  refine J_topil (z00) ?_
  refine J_if_eq (tgt := 22) hT dX9_told_10 (by decide) (fun q => absurd q (by decide)) (fun _ => ?_)
  refine J_aload_n (i := 0) hT dX9_told_13 rfl rfl ?_
  refine R_getP hT fX9_95 rfl dX9_told_14 (rk hS) (rp_told hS) ?_
  refine J_iload_n (i := 1) hT dX9_told_17 rfl rfl ?_
  refine R_iald hT dX9_told_18 (rk_told hS) (rl_told hS) (by first | exact ⟨rfl, by decide⟩ | exact zix_nI (by omega) (by decide) | assumption) ?_
  refine J_goto (tgt := 23) hT dX9_told_19 (by decide) ?_
  exact J_iret hT dX9_told_23 rfl rfl (⟨by rfl, rfl⟩) (Nat.le_refl _) (Nat.le_refl _)

set_option maxRecDepth 100000 in
set_option maxHeartbeats 4000000 in
theorem c_X9_told_no {l : Launch} {Z : zZ} (hZ : zSt l Z) {μ : zMem} {σ : Nat → Nat → Int32} {π : Nat → Nat → Option Nat} {g : Nat → Nat → Int64} (hS : zRef μ π) {a : Int32} (hb : svcB a = false) : zCt l Z mX9_told 2 0 0 [.ref 67, .int a] (zA4 μ σ π g) (fun r μ' => r = some (.int 0) ∧ μ' = zA4 μ (zu σ 67 45 1) π g) := by
  refine zCt_of hZ mpX9_told (Nat.le_of_ble_eq_true rfl) (L := [some (.ref 67), some (.int a)]) rfl (fun τ hY => ?_)
  have hT := hY.1
  refine J_aload_n (i := 0) hT dX9_told_0 rfl rfl ?_
  refine J_iload_n (i := 1) hT dX9_told_1 rfl rfl ?_
  refine R_callS1 hY dX9_told_2 mfX9_isService mtX9_isService kX9_300 (c_X9_isService hZ) rfl (by decide) rfl rfl (Nat.le_of_ble_eq_true rfl) (Nat.le_refl _) (Nat.le_refl _) ?_
  refine J_topil (svc0 hb) ?_
  refine J_iconst (v := 1) hT dX9_told_5 rfl ?_
  refine J_iconst (v := 1) hT dX9_told_6 rfl ?_
  refine R_callV1 (ci := 9) hY dX9_told_7 mfX9_goes miX9_goes msX9_goes kX9_150 ⟨by decide, rfl⟩ (rk hS) (c_X9_goes hZ hS) rfl (by decide) rfl rfl (Nat.le_of_ble_eq_true rfl) (Nat.le_refl _) (Nat.le_refl _) ?_
  rw [g011]
  refine J_topil (z10) ?_
  refine J_if_eq (tgt := 22) hT dX9_told_10 (by decide) (fun _ => ?_) (fun q => absurd (rfl) q)
  refine J_iconst (v := 0) hT dX9_told_22 rfl ?_
  exact J_iret hT dX9_told_23 rfl rfl (⟨rfl, rfl⟩) (Nat.le_refl _) (Nat.le_refl _)

set_option maxRecDepth 100000 in
set_option maxHeartbeats 4000000 in
theorem c_X9_starts_ok {l : Launch} {Z : zZ} (hZ : zSt l Z) {μ : zMem} {σ : Nat → Nat → Int32} {π : Nat → Nat → Option Nat} {g : Nat → Nat → Int64} (hS : zRef μ π) {c : Nat} (hc : c < 5) : zCt l Z mX9_starts 2 0 0 [.ref 67, .int (nI c)] (zA4 μ σ π g) (fun r μ' => r = some (.int (σ 97 c)) ∧ μ' = zA4 μ (zu σ 67 45 0) π g) := by
  refine zCt_of hZ mpX9_starts (Nat.le_of_ble_eq_true rfl) (L := [some (.ref 67), some (.int (nI c))]) rfl (fun τ hY => ?_)
  have hT := hY.1
  refine J_aload_n (i := 0) hT dX9_starts_0 rfl rfl ?_
  refine J_iload_n (i := 1) hT dX9_starts_1 rfl rfl ?_
  refine R_callS1 hY dX9_starts_2 mfX9_isService mtX9_isService kX9_300 (c_X9_isService hZ) rfl (by decide) rfl rfl (Nat.le_of_ble_eq_true rfl) (Nat.le_refl _) (Nat.le_refl _) ?_
  refine J_topil (svc1 hc) ?_
  refine J_iconst (v := 1) hT dX9_starts_5 rfl ?_
  refine J_iconst (v := 1) hT dX9_starts_6 rfl ?_
  refine R_callV1 (ci := 9) hY dX9_starts_7 mfX9_goes miX9_goes msX9_goes kX9_150 ⟨by decide, rfl⟩ (rk hS) (c_X9_goes hZ hS) rfl (by decide) rfl rfl (Nat.le_of_ble_eq_true rfl) (Nat.le_refl _) (Nat.le_refl _) ?_
  rw [g111]
  refine J_topil (z00) ?_
  refine J_if_eq (tgt := 22) hT dX9_starts_10 (by decide) (fun q => absurd q (by decide)) (fun _ => ?_)
  refine J_aload_n (i := 0) hT dX9_starts_13 rfl rfl ?_
  refine R_getP hT fX9_98 rfl dX9_starts_14 (rk hS) (rp_starts hS) ?_
  refine J_iload_n (i := 1) hT dX9_starts_17 rfl rfl ?_
  refine R_iald hT dX9_starts_18 (rk_starts hS) (rl_starts hS) (by first | exact ⟨rfl, by decide⟩ | exact zix_nI (by omega) (by decide) | assumption) ?_
  refine J_goto (tgt := 23) hT dX9_starts_19 (by decide) ?_
  exact J_iret hT dX9_starts_23 rfl rfl (⟨by rfl, rfl⟩) (Nat.le_refl _) (Nat.le_refl _)

set_option maxRecDepth 100000 in
set_option maxHeartbeats 4000000 in
theorem c_X9_starts_no {l : Launch} {Z : zZ} (hZ : zSt l Z) {μ : zMem} {σ : Nat → Nat → Int32} {π : Nat → Nat → Option Nat} {g : Nat → Nat → Int64} (hS : zRef μ π) {a : Int32} (hb : svcB a = false) : zCt l Z mX9_starts 2 0 0 [.ref 67, .int a] (zA4 μ σ π g) (fun r μ' => r = some (.int 0) ∧ μ' = zA4 μ (zu σ 67 45 1) π g) := by
  refine zCt_of hZ mpX9_starts (Nat.le_of_ble_eq_true rfl) (L := [some (.ref 67), some (.int a)]) rfl (fun τ hY => ?_)
  have hT := hY.1
  refine J_aload_n (i := 0) hT dX9_starts_0 rfl rfl ?_
  refine J_iload_n (i := 1) hT dX9_starts_1 rfl rfl ?_
  refine R_callS1 hY dX9_starts_2 mfX9_isService mtX9_isService kX9_300 (c_X9_isService hZ) rfl (by decide) rfl rfl (Nat.le_of_ble_eq_true rfl) (Nat.le_refl _) (Nat.le_refl _) ?_
  refine J_topil (svc0 hb) ?_
  refine J_iconst (v := 1) hT dX9_starts_5 rfl ?_
  refine J_iconst (v := 1) hT dX9_starts_6 rfl ?_
  refine R_callV1 (ci := 9) hY dX9_starts_7 mfX9_goes miX9_goes msX9_goes kX9_150 ⟨by decide, rfl⟩ (rk hS) (c_X9_goes hZ hS) rfl (by decide) rfl rfl (Nat.le_of_ble_eq_true rfl) (Nat.le_refl _) (Nat.le_refl _) ?_
  rw [g011]
  refine J_topil (z10) ?_
  refine J_if_eq (tgt := 22) hT dX9_starts_10 (by decide) (fun _ => ?_) (fun q => absurd (rfl) q)
  refine J_iconst (v := 0) hT dX9_starts_22 rfl ?_
  exact J_iret hT dX9_starts_23 rfl rfl (⟨rfl, rfl⟩) (Nat.le_refl _) (Nat.le_refl _)

set_option maxRecDepth 100000 in
set_option maxHeartbeats 4000000 in
theorem c_X9_isStale_ok {l : Launch} {Z : zZ} (hZ : zSt l Z) {μ : zMem} {σ : Nat → Nat → Int32} {π : Nat → Nat → Option Nat} {g : Nat → Nat → Int64} (hS : zRef μ π) {c : Nat} (hc : c < 12) : zCt l Z mX9_isStale 3 0 0 [.ref 67, .int (nI c)] (zA4 μ σ π g) (fun r μ' => r = some (.int (zbi (staleB (zu σ 67 45 0) c))) ∧ μ' = zA4 μ (zu σ 67 45 0) π g) := by
  refine zCt_of hZ mpX9_isStale (Nat.le_of_ble_eq_true rfl) (L := [some (.ref 67), some (.int (nI c))]) rfl (fun τ hY => ?_)
  have hT := hY.1
  refine J_aload_n (i := 0) hT dX9_isStale_0 rfl rfl ?_
  refine J_iload_n (i := 1) hT dX9_isStale_1 rfl rfl ?_
  refine R_callS1 hY dX9_isStale_2 mfX9_isCell mtX9_isCell kX9_286 (c_X9_isCell hZ) rfl (by decide) rfl rfl (Nat.le_of_ble_eq_true rfl) (Nat.le_refl _) (Nat.le_refl _) ?_
  refine J_topil (cell1 hc) ?_
  refine J_iconst (v := 1) hT dX9_isStale_5 rfl ?_
  refine J_iconst (v := 1) hT dX9_isStale_6 rfl ?_
  refine R_callV1 (ci := 9) hY dX9_isStale_7 mfX9_goes miX9_goes msX9_goes kX9_150 ⟨by decide, rfl⟩ (rk hS) (c_X9_goes hZ hS) rfl (by decide) rfl rfl (Nat.le_of_ble_eq_true rfl) (Nat.le_refl _) (Nat.le_refl _) ?_
  rw [g111]
  refine J_topil (z00) ?_
  refine J_if_eq (tgt := 25) hT dX9_isStale_10 (by decide) (fun q => absurd q (by decide)) (fun _ => ?_)
  refine J_aload_n (i := 0) hT dX9_isStale_13 rfl rfl ?_
  refine J_iload_n (i := 1) hT dX9_isStale_14 rfl rfl ?_
  refine R_callV1 (ci := 9) hY dX9_isStale_15 mfX9_stale miX9_stale msX9_stale kX9_231 ⟨by decide, rfl⟩ (rk hS) (c_X9_stale hZ hS hc) rfl (by decide) rfl rfl (Nat.le_of_ble_eq_true rfl) (Nat.le_refl _) (Nat.le_refl _) ?_
  refine J_if_eq (tgt := 25) hT dX9_isStale_18 (by decide) (fun q18 => ?_) (fun q18 => ?_)
  · refine J_iconst (v := 0) hT dX9_isStale_25 rfl ?_
    exact J_iret hT dX9_isStale_26 rfl rfl (⟨by congr 2; simp_all [zbi], rfl⟩) (Nat.le_refl _) (Nat.le_refl _)
  · refine J_iconst (v := 1) hT dX9_isStale_21 rfl ?_
    refine J_goto (tgt := 26) hT dX9_isStale_22 (by decide) ?_
    exact J_iret hT dX9_isStale_26 rfl rfl (⟨by congr 2; simp_all [zbi], rfl⟩) (Nat.le_refl _) (Nat.le_refl _)

set_option maxRecDepth 100000 in
set_option maxHeartbeats 4000000 in
theorem c_X9_isStale_no {l : Launch} {Z : zZ} (hZ : zSt l Z) {μ : zMem} {σ : Nat → Nat → Int32} {π : Nat → Nat → Option Nat} {g : Nat → Nat → Int64} (hS : zRef μ π) {a : Int32} (hb : cellB a = false) : zCt l Z mX9_isStale 3 0 0 [.ref 67, .int a] (zA4 μ σ π g) (fun r μ' => r = some (.int 0) ∧ μ' = zA4 μ (zu σ 67 45 1) π g) := by
  refine zCt_of hZ mpX9_isStale (Nat.le_of_ble_eq_true rfl) (L := [some (.ref 67), some (.int a)]) rfl (fun τ hY => ?_)
  have hT := hY.1
  refine J_aload_n (i := 0) hT dX9_isStale_0 rfl rfl ?_
  refine J_iload_n (i := 1) hT dX9_isStale_1 rfl rfl ?_
  refine R_callS1 hY dX9_isStale_2 mfX9_isCell mtX9_isCell kX9_286 (c_X9_isCell hZ) rfl (by decide) rfl rfl (Nat.le_of_ble_eq_true rfl) (Nat.le_refl _) (Nat.le_refl _) ?_
  refine J_topil (cell0 hb) ?_
  refine J_iconst (v := 1) hT dX9_isStale_5 rfl ?_
  refine J_iconst (v := 1) hT dX9_isStale_6 rfl ?_
  refine R_callV1 (ci := 9) hY dX9_isStale_7 mfX9_goes miX9_goes msX9_goes kX9_150 ⟨by decide, rfl⟩ (rk hS) (c_X9_goes hZ hS) rfl (by decide) rfl rfl (Nat.le_of_ble_eq_true rfl) (Nat.le_refl _) (Nat.le_refl _) ?_
  rw [g011]
  refine J_topil (z10) ?_
  refine J_if_eq (tgt := 25) hT dX9_isStale_10 (by decide) (fun _ => ?_) (fun q => absurd (rfl) q)
  refine J_iconst (v := 0) hT dX9_isStale_25 rfl ?_
  exact J_iret hT dX9_isStale_26 rfl rfl (⟨rfl, rfl⟩) (Nat.le_refl _) (Nat.le_refl _)

set_option maxRecDepth 100000 in
set_option maxHeartbeats 4000000 in
theorem c_X9_worth_ok {l : Launch} {Z : zZ} (hZ : zSt l Z) {μ : zMem} {σ : Nat → Nat → Int32} {π : Nat → Nat → Option Nat} {g : Nat → Nat → Int64} (hS : zRef μ π) {c : Nat} (hc : c < 12) (hW : RI (zu σ 67 45 0)) : zCt l Z mX9_worth 3 0 0 [.ref 67, .int (nI c)] (zA4 μ σ π g) (fun r μ' => r = some (.int (worthN (zu σ 67 45 0) c)) ∧ ∃ g', μ' = zA4 μ (zu (zu σ 67 45 0) 67 44 1) π g' ∧ zge g g') := by
  refine zCt_of hZ mpX9_worth (Nat.le_of_ble_eq_true rfl) (L := [some (.ref 67), some (.int (nI c))]) rfl (fun τ hY => ?_)
  have hT := hY.1
  refine J_aload_n (i := 0) hT dX9_worth_0 rfl rfl ?_
  refine J_iload_n (i := 1) hT dX9_worth_1 rfl rfl ?_
  refine R_callS1 hY dX9_worth_2 mfX9_isCell mtX9_isCell kX9_286 (c_X9_isCell hZ) rfl (by decide) rfl rfl (Nat.le_of_ble_eq_true rfl) (Nat.le_refl _) (Nat.le_refl _) ?_
  refine J_topil (cell1 hc) ?_
  refine J_iconst (v := 1) hT dX9_worth_5 rfl ?_
  refine J_iconst (v := 1) hT dX9_worth_6 rfl ?_
  refine R_callV1 (ci := 9) hY dX9_worth_7 mfX9_goes miX9_goes msX9_goes kX9_150 ⟨by decide, rfl⟩ (rk hS) (c_X9_goes hZ hS) rfl (by decide) rfl rfl (Nat.le_of_ble_eq_true rfl) (Nat.le_refl _) (Nat.le_refl _) ?_
  rw [g111]
  refine J_topil (z00) ?_
  refine J_if_eq (tgt := 21) hT dX9_worth_10 (by decide) (fun q => absurd q (by decide)) (fun _ => ?_)
  refine J_aload_n (i := 0) hT dX9_worth_13 rfl rfl ?_
  refine J_iload_n (i := 1) hT dX9_worth_14 rfl rfl ?_
  refine J_callV (ci := 9) hY dX9_worth_15 mfX9_worthOf miX9_worthOf msX9_worthOf kX9_211 ⟨by decide, rfl⟩ (rk hS) (c_X9_worthOf hZ hS hc (hW.1 c hc)) rfl (by decide) rfl rfl (Nat.le_of_ble_eq_true rfl) (Nat.le_refl _) (Nat.le_refl _) (fun r1 μ1 hq1 => ?_)
  obtain ⟨rfl, g2, rfl, hg2⟩ := hq1
  refine J_goto (tgt := 22) hT dX9_worth_18 (by decide) ?_
  exact J_iret hT dX9_worth_22 rfl rfl (⟨rfl, g2, rfl, hg2⟩) (Nat.le_refl _) (Nat.le_refl _)

set_option maxRecDepth 100000 in
set_option maxHeartbeats 4000000 in
theorem c_X9_worth_no {l : Launch} {Z : zZ} (hZ : zSt l Z) {μ : zMem} {σ : Nat → Nat → Int32} {π : Nat → Nat → Option Nat} {g : Nat → Nat → Int64} (hS : zRef μ π) {a : Int32} (hb : cellB a = false) : zCt l Z mX9_worth 3 0 0 [.ref 67, .int a] (zA4 μ σ π g) (fun r μ' => r = some (.int 0) ∧ μ' = zA4 μ (zu σ 67 45 1) π g) := by
  refine zCt_of hZ mpX9_worth (Nat.le_of_ble_eq_true rfl) (L := [some (.ref 67), some (.int a)]) rfl (fun τ hY => ?_)
  have hT := hY.1
  refine J_aload_n (i := 0) hT dX9_worth_0 rfl rfl ?_
  refine J_iload_n (i := 1) hT dX9_worth_1 rfl rfl ?_
  refine R_callS1 hY dX9_worth_2 mfX9_isCell mtX9_isCell kX9_286 (c_X9_isCell hZ) rfl (by decide) rfl rfl (Nat.le_of_ble_eq_true rfl) (Nat.le_refl _) (Nat.le_refl _) ?_
  refine J_topil (cell0 hb) ?_
  refine J_iconst (v := 1) hT dX9_worth_5 rfl ?_
  refine J_iconst (v := 1) hT dX9_worth_6 rfl ?_
  refine R_callV1 (ci := 9) hY dX9_worth_7 mfX9_goes miX9_goes msX9_goes kX9_150 ⟨by decide, rfl⟩ (rk hS) (c_X9_goes hZ hS) rfl (by decide) rfl rfl (Nat.le_of_ble_eq_true rfl) (Nat.le_refl _) (Nat.le_refl _) ?_
  rw [g011]
  refine J_topil (z10) ?_
  refine J_if_eq (tgt := 21) hT dX9_worth_10 (by decide) (fun _ => ?_) (fun q => absurd (rfl) q)
  refine J_iconst (v := 0) hT dX9_worth_21 rfl ?_
  exact J_iret hT dX9_worth_22 rfl rfl (⟨rfl, rfl⟩) (Nat.le_refl _) (Nat.le_refl _)
