theorem c_okC {l : Launch} {Z : zZ} (hZ : zSt l Z) {x : Int32} (hx : okC x) {μ : zMem} : zCt l Z mX8_checkCellOrNone 2 0 0 [.int x] μ (fun r μ' => r = none ∧ μ' = μ) := by
  rcases hx with e | ⟨c, hc, e⟩
  · rw [e]; exact c_X8_checkCellOrNoneN hZ
  · rw [e]; exact c_X8_checkCellOrNone hZ hc

set_option maxRecDepth 100000 in
set_option maxHeartbeats 4000000 in
theorem x_X8_keep {l : Launch} {Z : zZ} (hZ : zSt l Z) {μ : zMem} {σ : zS2} {π : zP2} {g : zG2} {n : Nat} {S : zS2} (hC : CW n S μ σ π) (hX : zXs Z) (hn40 : n ≤ 40) (hn : ¬ n < 40) {w a b c : Int32} : zCtX l Z mX8_keep 6 1 6 [.ref 0, .int w, .int a, .int b, .int c, .null] (zA4 μ σ π g) "java/lang/IllegalStateException" (fun μ' => μ' = zA4 μ σ π g) := by
  refine zCtX_of hZ mpX8_keep (Nat.le_of_ble_eq_true rfl) (L := [some (.ref 0), some (.int w), some (.int a), some (.int b), some (.int c), some (.null), none]) rfl (fun τ hYX => ?_)
  have hY := hYX.1
  have hT := hY.1
  have hn2 : n = 40 := by omega
  subst hn2
  refine J_aload_n (i := 0) hT dX8_keep_0 rfl rfl ?_
  refine R_getI hT fX8_41 rfl dX8_keep_1 hC.k0 ?_
  refine J_topil (hC.ct) ?_
  refine J_if_lt (tgt := 19) hT dX8_keep_4 (by decide) (fun q => absurd q (nI_pos (by omega))) (fun _ => ?_)
  refine J_aload_n (i := 0) hT dX8_keep_7 rfl rfl ?_
  refine R_getI hT fX8_41 rfl dX8_keep_8 hC.k0 ?_
  refine J_topil (hC.ct) ?_
  refine J_aload_n (i := 0) hT dX8_keep_11 rfl rfl ?_
  refine R_getP hT fX8_37 rfl dX8_keep_12 hC.k0 hC.p4 ?_
  refine R_alen hT dX8_keep_15 (by rw [hC.k65]; decide) hC.l65 ?_
  refine J_icmp_lt (tgt := 29) hT dX8_keep_16 (by decide) (fun q => absurd q (Int32.not_lt.mpr (nI_le (a := 40) (b := 40) (by decide) (by decide)))) (fun _ => ?_)
  exact J_throw_ise hYX hX rfl (tx := "as many steps as may be are kept") (by decide) dX8_keep_19 dX8_keep_22 dX8_keep_23 dX8_keep_25 dX8_keep_28 rfl (by decide) (rfl) (by first | exact Nat.le_refl _ | decide | omega) (by first | exact Nat.le_refl _ | decide | omega)

set_option maxRecDepth 100000 in
set_option maxHeartbeats 4000000 in
theorem x_X8_keepF {l : Launch} {Z : zZ} (hZ : zSt l Z) {μ : zMem} {σ : zS2} {π : zP2} {g : zG2} {n : Nat} {S : zS2} (hC : CW n S μ σ π) (hX : zXs Z) (hn40 : n ≤ 40) (hn : ¬ n < 40) {w a b c : Int32} {f : Nat} : zCtX l Z mX8_keep 6 1 6 [.ref 0, .int w, .int a, .int b, .int c, .ref f] (zA4 μ σ π g) "java/lang/IllegalStateException" (fun μ' => μ' = zA4 μ σ π g) := by
  refine zCtX_of hZ mpX8_keep (Nat.le_of_ble_eq_true rfl) (L := [some (.ref 0), some (.int w), some (.int a), some (.int b), some (.int c), some (.ref f), none]) rfl (fun τ hYX => ?_)
  have hY := hYX.1
  have hT := hY.1
  have hn2 : n = 40 := by omega
  subst hn2
  refine J_aload_n (i := 0) hT dX8_keep_0 rfl rfl ?_
  refine R_getI hT fX8_41 rfl dX8_keep_1 hC.k0 ?_
  refine J_topil (hC.ct) ?_
  refine J_if_lt (tgt := 19) hT dX8_keep_4 (by decide) (fun q => absurd q (nI_pos (by omega))) (fun _ => ?_)
  refine J_aload_n (i := 0) hT dX8_keep_7 rfl rfl ?_
  refine R_getI hT fX8_41 rfl dX8_keep_8 hC.k0 ?_
  refine J_topil (hC.ct) ?_
  refine J_aload_n (i := 0) hT dX8_keep_11 rfl rfl ?_
  refine R_getP hT fX8_37 rfl dX8_keep_12 hC.k0 hC.p4 ?_
  refine R_alen hT dX8_keep_15 (by rw [hC.k65]; decide) hC.l65 ?_
  refine J_icmp_lt (tgt := 29) hT dX8_keep_16 (by decide) (fun q => absurd q (Int32.not_lt.mpr (nI_le (a := 40) (b := 40) (by decide) (by decide)))) (fun _ => ?_)
  exact J_throw_ise hYX hX rfl (tx := "as many steps as may be are kept") (by decide) dX8_keep_19 dX8_keep_22 dX8_keep_23 dX8_keep_25 dX8_keep_28 rfl (by decide) (rfl) (by first | exact Nat.le_refl _ | decide | omega) (by first | exact Nat.le_refl _ | decide | omega)

set_option maxRecDepth 100000 in
set_option maxHeartbeats 4000000 in
theorem c_X8_hold {l : Launch} {Z : zZ} (hZ : zSt l Z) (hO : zOps Z) {μ : zMem} {σ : zS2} {π : zP2} {g : zG2} {n : Nat} {S : zS2} (hC : CW n S μ σ π) (hn : n < 40) {c : Nat} (hc : c < 12) {v : Int32} (hv : -1000 ≤ v ∧ v ≤ 1000) (hk : KS n S (1) (nI c) (v) (0)) : zCt l Z mX8_hold 7 1 6 [.ref 0, .int (nI c), .int v] (zA4 μ σ π g) (fun r μ' => r = some (.int (nI (doF (kpS S n (1) (nI c) (v) (0)) n).2)) ∧ zKp (n + 1) (doF (kpS S n (1) (nI c) (v) (0)) n).1 μ σ π g μ') := by
  refine zCt_of hZ mpX8_hold (Nat.le_of_ble_eq_true rfl) (L := [some (.ref 0), some (.int (nI c)), some (.int v)]) rfl (fun τ hY => ?_)
  have hT := hY.1
  have hM := hC.m
  have hB := hM.1.tb
  refine J_iload_n (i := 1) hT dX8_hold_0 rfl rfl ?_
  refine R_callS0 hY dX8_hold_1 mfX8_checkCell mtX8_checkCell kX8_91 (c_X8_checkCell hZ hc) rfl (by decide) rfl rfl (Nat.le_of_ble_eq_true rfl) (Nat.zero_le _) (Nat.zero_le _) ?_
  refine J_iload_n (i := 2) hT dX8_hold_4 rfl rfl ?_
  refine J_sipush (v := -1000) hT dX8_hold_5 rfl ?_
  refine J_sipush (v := 1000) hT dX8_hold_8 rfl ?_
  refine R_callS0 hY dX8_hold_11 mfX8_checkNumber mtX8_checkNumber kX8_119 (c_X8_checkNumber hZ hv.1 hv.2) rfl (by decide) rfl rfl (Nat.le_of_ble_eq_true rfl) (Nat.zero_le _) (Nat.zero_le _) ?_
  refine J_aload_n (i := 0) hT dX8_hold_14 rfl rfl ?_
  refine J_iconst (v := 1) hT dX8_hold_15 rfl ?_
  refine J_iload_n (i := 1) hT dX8_hold_16 rfl rfl ?_
  refine J_iload_n (i := 2) hT dX8_hold_17 rfl rfl ?_
  refine J_iconst (v := 0) hT dX8_hold_18 rfl ?_
  refine J_null hT dX8_hold_19 ?_
  refine J_callV (ci := 8) hY dX8_hold_20 mfX8_keep miX8_keep msX8_keep kX8_115 ⟨by decide, rfl⟩ hC.k0 (c_X8_keep hZ hO hC hn (by decide) hk.1 hk.2.1 hk.2.2.1 hk.2.2.2.1 hk.2.2.2.2.1 hk.2.2.2.2.2) rfl (by decide) rfl rfl (Nat.le_of_ble_eq_true rfl) (by decide) (by decide) (fun r1 μ1 hq1 => ?_)
  obtain ⟨rfl, hq2⟩ := hq1
  show zJ _ _ _ _ (.int _ :: _) _ _ _
  exact J_iret hT dX8_hold_23 rfl rfl (⟨rfl, hq2⟩) (by decide) (by decide)

set_option maxRecDepth 100000 in
set_option maxHeartbeats 4000000 in
theorem x_X8_hold_1 {l : Launch} {Z : zZ} (hZ : zSt l Z) {μ : zMem} {σ : zS2} {π : zP2} {g : zG2} {n : Nat} {S : zS2} (hC : CW n S μ σ π) (hX : zXs Z) {a v : Int32} (h : cellB a = false) : zCtX l Z mX8_hold 7 1 6 [.ref 0, .int a, .int v] (zA4 μ σ π g) "java/lang/IndexOutOfBoundsException" (fun μ' => μ' = zA4 μ σ π g) := by
  refine zCtX_of hZ mpX8_hold (Nat.le_of_ble_eq_true rfl) (L := [some (.ref 0), some (.int a), some (.int v)]) rfl (fun τ hYX => ?_)
  have hY := hYX.1
  have hT := hY.1
  have hM := hC.m
  have hB := hM.1.tb
  refine J_iload_n (i := 1) hT dX8_hold_0 rfl rfl ?_
  exact J_callSX hYX dX8_hold_1 mfX8_checkCell mtX8_checkCell (Or.inl mlX8_91) (x_X8_checkCell hZ hX h) rfl (by decide) rfl rfl (Nat.le_of_ble_eq_true rfl) (by first | exact Nat.le_refl _ | decide | omega) (by first | exact Nat.le_refl _ | decide | omega) mlX8_91

set_option maxRecDepth 100000 in
set_option maxHeartbeats 4000000 in
theorem x_X8_hold_2 {l : Launch} {Z : zZ} (hZ : zSt l Z) {μ : zMem} {σ : zS2} {π : zP2} {g : zG2} {n : Nat} {S : zS2} (hC : CW n S μ σ π) (hX : zXs Z) {c : Nat} (hc : c < 12) {v : Int32} (hv : ¬ (-1000 ≤ v ∧ v ≤ 1000)) : zCtX l Z mX8_hold 7 1 6 [.ref 0, .int (nI c), .int v] (zA4 μ σ π g) "java/lang/IllegalArgumentException" (fun μ' => μ' = zA4 μ σ π g) := by
  refine zCtX_of hZ mpX8_hold (Nat.le_of_ble_eq_true rfl) (L := [some (.ref 0), some (.int (nI c)), some (.int v)]) rfl (fun τ hYX => ?_)
  have hY := hYX.1
  have hT := hY.1
  have hM := hC.m
  have hB := hM.1.tb
  refine J_iload_n (i := 1) hT dX8_hold_0 rfl rfl ?_
  refine R_callS0 hY dX8_hold_1 mfX8_checkCell mtX8_checkCell kX8_91 (c_X8_checkCell hZ hc) rfl (by decide) rfl rfl (Nat.le_of_ble_eq_true rfl) (Nat.zero_le _) (Nat.zero_le _) ?_
  refine J_iload_n (i := 2) hT dX8_hold_4 rfl rfl ?_
  refine J_sipush (v := -1000) hT dX8_hold_5 rfl ?_
  refine J_sipush (v := 1000) hT dX8_hold_8 rfl ?_
  exact J_callSX hYX dX8_hold_11 mfX8_checkNumber mtX8_checkNumber (Or.inl mlX8_119) (x_X8_checkNumber hZ hX hv) rfl (by decide) rfl rfl (Nat.le_of_ble_eq_true rfl) (by first | exact Nat.le_refl _ | decide | omega) (by first | exact Nat.le_refl _ | decide | omega) mlX8_119

set_option maxRecDepth 100000 in
set_option maxHeartbeats 4000000 in
theorem x_X8_hold_3 {l : Launch} {Z : zZ} (hZ : zSt l Z) {μ : zMem} {σ : zS2} {π : zP2} {g : zG2} {n : Nat} {S : zS2} (hC : CW n S μ σ π) (hX : zXs Z) {c : Nat} (hc : c < 12) {v : Int32} (hv : -1000 ≤ v ∧ v ≤ 1000) (hn40 : n ≤ 40) (hn : ¬ n < 40) : zCtX l Z mX8_hold 7 1 6 [.ref 0, .int (nI c), .int v] (zA4 μ σ π g) "java/lang/IllegalStateException" (fun μ' => μ' = zA4 μ σ π g) := by
  refine zCtX_of hZ mpX8_hold (Nat.le_of_ble_eq_true rfl) (L := [some (.ref 0), some (.int (nI c)), some (.int v)]) rfl (fun τ hYX => ?_)
  have hY := hYX.1
  have hT := hY.1
  have hM := hC.m
  have hB := hM.1.tb
  refine J_iload_n (i := 1) hT dX8_hold_0 rfl rfl ?_
  refine R_callS0 hY dX8_hold_1 mfX8_checkCell mtX8_checkCell kX8_91 (c_X8_checkCell hZ hc) rfl (by decide) rfl rfl (Nat.le_of_ble_eq_true rfl) (Nat.zero_le _) (Nat.zero_le _) ?_
  refine J_iload_n (i := 2) hT dX8_hold_4 rfl rfl ?_
  refine J_sipush (v := -1000) hT dX8_hold_5 rfl ?_
  refine J_sipush (v := 1000) hT dX8_hold_8 rfl ?_
  refine R_callS0 hY dX8_hold_11 mfX8_checkNumber mtX8_checkNumber kX8_119 (c_X8_checkNumber hZ hv.1 hv.2) rfl (by decide) rfl rfl (Nat.le_of_ble_eq_true rfl) (Nat.zero_le _) (Nat.zero_le _) ?_
  refine J_aload_n (i := 0) hT dX8_hold_14 rfl rfl ?_
  refine J_iconst (v := 1) hT dX8_hold_15 rfl ?_
  refine J_iload_n (i := 1) hT dX8_hold_16 rfl rfl ?_
  refine J_iload_n (i := 2) hT dX8_hold_17 rfl rfl ?_
  refine J_iconst (v := 0) hT dX8_hold_18 rfl ?_
  refine J_null hT dX8_hold_19 ?_
  exact J_callVX (ci := 8) hYX dX8_hold_20 mfX8_keep miX8_keep msX8_keep ⟨by decide, rfl⟩ hC.k0 (x_X8_keep hZ hC hX hn40 hn) rfl (Nat.le_of_ble_eq_true rfl) rfl rfl (by decide) (by decide) (by decide) mlX8_115

set_option maxRecDepth 100000 in
set_option maxHeartbeats 4000000 in
theorem c_X8_read {l : Launch} {Z : zZ} (hZ : zSt l Z) (hO : zOps Z) {μ : zMem} {σ : zS2} {π : zP2} {g : zG2} {n : Nat} {S : zS2} (hC : CW n S μ σ π) (hn : n < 40) {c : Nat} (hc : c < 5) {v : Int32} (hv : -1000 ≤ v ∧ v ≤ 1000) (hk : KS n S (3) (nI c) (v) (0)) : zCt l Z mX8_read 7 1 6 [.ref 0, .int (nI c), .int v] (zA4 μ σ π g) (fun r μ' => r = some (.int (nI (doF (kpS S n (3) (nI c) (v) (0)) n).2)) ∧ zKp (n + 1) (doF (kpS S n (3) (nI c) (v) (0)) n).1 μ σ π g μ') := by
  refine zCt_of hZ mpX8_read (Nat.le_of_ble_eq_true rfl) (L := [some (.ref 0), some (.int (nI c)), some (.int v)]) rfl (fun τ hY => ?_)
  have hT := hY.1
  have hM := hC.m
  have hB := hM.1.tb
  refine J_iload_n (i := 1) hT dX8_read_0 rfl rfl ?_
  refine J_iconst (v := 5) hT dX8_read_1 rfl ?_
  refine R_callS0 hY dX8_read_2 mfX8_checkPlace mtX8_checkPlace kX8_135 (c_X8_checkPlace hZ (nI_le (a := 0) (b := c) (by omega) (by omega)) (nI_lt (a := c) (b := 5) hc (by decide))) rfl (by decide) rfl rfl (Nat.le_of_ble_eq_true rfl) (Nat.zero_le _) (Nat.zero_le _) ?_
  refine J_iload_n (i := 2) hT dX8_read_5 rfl rfl ?_
  refine J_sipush (v := -1000) hT dX8_read_6 rfl ?_
  refine J_sipush (v := 1000) hT dX8_read_9 rfl ?_
  refine R_callS0 hY dX8_read_12 mfX8_checkNumber mtX8_checkNumber kX8_119 (c_X8_checkNumber hZ hv.1 hv.2) rfl (by decide) rfl rfl (Nat.le_of_ble_eq_true rfl) (Nat.zero_le _) (Nat.zero_le _) ?_
  refine J_aload_n (i := 0) hT dX8_read_15 rfl rfl ?_
  refine J_iconst (v := 3) hT dX8_read_16 rfl ?_
  refine J_iload_n (i := 1) hT dX8_read_17 rfl rfl ?_
  refine J_iload_n (i := 2) hT dX8_read_18 rfl rfl ?_
  refine J_iconst (v := 0) hT dX8_read_19 rfl ?_
  refine J_null hT dX8_read_20 ?_
  refine J_callV (ci := 8) hY dX8_read_21 mfX8_keep miX8_keep msX8_keep kX8_115 ⟨by decide, rfl⟩ hC.k0 (c_X8_keep hZ hO hC hn (by decide) hk.1 hk.2.1 hk.2.2.1 hk.2.2.2.1 hk.2.2.2.2.1 hk.2.2.2.2.2) rfl (by decide) rfl rfl (Nat.le_of_ble_eq_true rfl) (by decide) (by decide) (fun r1 μ1 hq1 => ?_)
  obtain ⟨rfl, hq2⟩ := hq1
  show zJ _ _ _ _ (.int _ :: _) _ _ _
  exact J_iret hT dX8_read_24 rfl rfl (⟨rfl, hq2⟩) (by decide) (by decide)

set_option maxRecDepth 100000 in
set_option maxHeartbeats 4000000 in
theorem x_X8_read_1 {l : Launch} {Z : zZ} (hZ : zSt l Z) {μ : zMem} {σ : zS2} {π : zP2} {g : zG2} {n : Nat} {S : zS2} (hC : CW n S μ σ π) (hX : zXs Z) {a v : Int32} (h : ¬ (0 ≤ a ∧ a < 5)) : zCtX l Z mX8_read 7 1 6 [.ref 0, .int a, .int v] (zA4 μ σ π g) "java/lang/IndexOutOfBoundsException" (fun μ' => μ' = zA4 μ σ π g) := by
  refine zCtX_of hZ mpX8_read (Nat.le_of_ble_eq_true rfl) (L := [some (.ref 0), some (.int a), some (.int v)]) rfl (fun τ hYX => ?_)
  have hY := hYX.1
  have hT := hY.1
  have hM := hC.m
  have hB := hM.1.tb
  refine J_iload_n (i := 1) hT dX8_read_0 rfl rfl ?_
  refine J_iconst (v := 5) hT dX8_read_1 rfl ?_
  exact J_callSX hYX dX8_read_2 mfX8_checkPlace mtX8_checkPlace (Or.inl mlX8_135) (x_X8_checkPlace hZ hX h) rfl (by decide) rfl rfl (Nat.le_of_ble_eq_true rfl) (by first | exact Nat.le_refl _ | decide | omega) (by first | exact Nat.le_refl _ | decide | omega) mlX8_135

set_option maxRecDepth 100000 in
set_option maxHeartbeats 4000000 in
theorem x_X8_read_2 {l : Launch} {Z : zZ} (hZ : zSt l Z) {μ : zMem} {σ : zS2} {π : zP2} {g : zG2} {n : Nat} {S : zS2} (hC : CW n S μ σ π) (hX : zXs Z) {c : Nat} (hc : c < 5) {v : Int32} (hv : ¬ (-1000 ≤ v ∧ v ≤ 1000)) : zCtX l Z mX8_read 7 1 6 [.ref 0, .int (nI c), .int v] (zA4 μ σ π g) "java/lang/IllegalArgumentException" (fun μ' => μ' = zA4 μ σ π g) := by
  refine zCtX_of hZ mpX8_read (Nat.le_of_ble_eq_true rfl) (L := [some (.ref 0), some (.int (nI c)), some (.int v)]) rfl (fun τ hYX => ?_)
  have hY := hYX.1
  have hT := hY.1
  have hM := hC.m
  have hB := hM.1.tb
  refine J_iload_n (i := 1) hT dX8_read_0 rfl rfl ?_
  refine J_iconst (v := 5) hT dX8_read_1 rfl ?_
  refine R_callS0 hY dX8_read_2 mfX8_checkPlace mtX8_checkPlace kX8_135 (c_X8_checkPlace hZ (nI_le (a := 0) (b := c) (by omega) (by omega)) (nI_lt (a := c) (b := 5) hc (by decide))) rfl (by decide) rfl rfl (Nat.le_of_ble_eq_true rfl) (Nat.zero_le _) (Nat.zero_le _) ?_
  refine J_iload_n (i := 2) hT dX8_read_5 rfl rfl ?_
  refine J_sipush (v := -1000) hT dX8_read_6 rfl ?_
  refine J_sipush (v := 1000) hT dX8_read_9 rfl ?_
  exact J_callSX hYX dX8_read_12 mfX8_checkNumber mtX8_checkNumber (Or.inl mlX8_119) (x_X8_checkNumber hZ hX hv) rfl (by decide) rfl rfl (Nat.le_of_ble_eq_true rfl) (by first | exact Nat.le_refl _ | decide | omega) (by first | exact Nat.le_refl _ | decide | omega) mlX8_119

set_option maxRecDepth 100000 in
set_option maxHeartbeats 4000000 in
theorem x_X8_read_3 {l : Launch} {Z : zZ} (hZ : zSt l Z) {μ : zMem} {σ : zS2} {π : zP2} {g : zG2} {n : Nat} {S : zS2} (hC : CW n S μ σ π) (hX : zXs Z) {c : Nat} (hc : c < 5) {v : Int32} (hv : -1000 ≤ v ∧ v ≤ 1000) (hn40 : n ≤ 40) (hn : ¬ n < 40) : zCtX l Z mX8_read 7 1 6 [.ref 0, .int (nI c), .int v] (zA4 μ σ π g) "java/lang/IllegalStateException" (fun μ' => μ' = zA4 μ σ π g) := by
  refine zCtX_of hZ mpX8_read (Nat.le_of_ble_eq_true rfl) (L := [some (.ref 0), some (.int (nI c)), some (.int v)]) rfl (fun τ hYX => ?_)
  have hY := hYX.1
  have hT := hY.1
  have hM := hC.m
  have hB := hM.1.tb
  refine J_iload_n (i := 1) hT dX8_read_0 rfl rfl ?_
  refine J_iconst (v := 5) hT dX8_read_1 rfl ?_
  refine R_callS0 hY dX8_read_2 mfX8_checkPlace mtX8_checkPlace kX8_135 (c_X8_checkPlace hZ (nI_le (a := 0) (b := c) (by omega) (by omega)) (nI_lt (a := c) (b := 5) hc (by decide))) rfl (by decide) rfl rfl (Nat.le_of_ble_eq_true rfl) (Nat.zero_le _) (Nat.zero_le _) ?_
  refine J_iload_n (i := 2) hT dX8_read_5 rfl rfl ?_
  refine J_sipush (v := -1000) hT dX8_read_6 rfl ?_
  refine J_sipush (v := 1000) hT dX8_read_9 rfl ?_
  refine R_callS0 hY dX8_read_12 mfX8_checkNumber mtX8_checkNumber kX8_119 (c_X8_checkNumber hZ hv.1 hv.2) rfl (by decide) rfl rfl (Nat.le_of_ble_eq_true rfl) (Nat.zero_le _) (Nat.zero_le _) ?_
  refine J_aload_n (i := 0) hT dX8_read_15 rfl rfl ?_
  refine J_iconst (v := 3) hT dX8_read_16 rfl ?_
  refine J_iload_n (i := 1) hT dX8_read_17 rfl rfl ?_
  refine J_iload_n (i := 2) hT dX8_read_18 rfl rfl ?_
  refine J_iconst (v := 0) hT dX8_read_19 rfl ?_
  refine J_null hT dX8_read_20 ?_
  exact J_callVX (ci := 8) hYX dX8_read_21 mfX8_keep miX8_keep msX8_keep ⟨by decide, rfl⟩ hC.k0 (x_X8_keep hZ hC hX hn40 hn) rfl (Nat.le_of_ble_eq_true rfl) rfl rfl (by decide) (by decide) (by decide) mlX8_115

set_option maxRecDepth 100000 in
set_option maxHeartbeats 4000000 in
theorem c_X8_release {l : Launch} {Z : zZ} (hZ : zSt l Z) (hO : zOps Z) {μ : zMem} {σ : zS2} {π : zP2} {g : zG2} {n : Nat} {S : zS2} (hC : CW n S μ σ π) (hn : n < 40) {c : Nat} (hc : c < 12) (hh : S 80 c ≠ 0) (hk : KS n S (2) (nI c) (0) (0)) : zCt l Z mX8_release 7 1 6 [.ref 0, .int (nI c)] (zA4 μ σ π g) (fun r μ' => r = some (.int (nI (doF (kpS S n (2) (nI c) (0) (0)) n).2)) ∧ zKp (n + 1) (doF (kpS S n (2) (nI c) (0) (0)) n).1 μ σ π g μ') := by
  refine zCt_of hZ mpX8_release (Nat.le_of_ble_eq_true rfl) (L := [some (.ref 0), some (.int (nI c))]) rfl (fun τ hY => ?_)
  have hT := hY.1
  have hM := hC.m
  have hB := hM.1.tb
  refine J_iload_n (i := 1) hT dX8_release_0 rfl rfl ?_
  refine R_callS0 hY dX8_release_1 mfX8_checkCell mtX8_checkCell kX8_91 (c_X8_checkCell hZ hc) rfl (by decide) rfl rfl (Nat.le_of_ble_eq_true rfl) (Nat.zero_le _) (Nat.zero_le _) ?_
  refine J_aload_n (i := 0) hT dX8_release_4 rfl rfl ?_
  refine R_getP hT fX8_28 rfl dX8_release_5 hC.k0 hC.p2 ?_
  refine R_getP hT fX8_123 rfl dX8_release_8 hB.k hB.p1 ?_
  refine J_iload_n (i := 1) hT dX8_release_11 rfl rfl ?_
  refine R_aald1 hT dX8_release_12 hB.k3 (by decide) hB.l3 (by first | exact ⟨rfl, by decide⟩ | exact zix_nI (by omega) (by decide) | assumption) (hB.pc hc) ?_
  refine R_getI hT fX8_127 rfl dX8_release_13 (hB.kc hc) ?_
  refine J_topil ((hM.1.held hc)) ?_
  refine J_if_ne (tgt := 29) hT dX8_release_16 (by decide) (fun _ => ?_) (fun q => absurd q (hh))
  refine J_aload_n (i := 0) hT dX8_release_29 rfl rfl ?_
  refine J_iconst (v := 2) hT dX8_release_30 rfl ?_
  refine J_iload_n (i := 1) hT dX8_release_31 rfl rfl ?_
  refine J_iconst (v := 0) hT dX8_release_32 rfl ?_
  refine J_iconst (v := 0) hT dX8_release_33 rfl ?_
  refine J_null hT dX8_release_34 ?_
  refine J_callV (ci := 8) hY dX8_release_35 mfX8_keep miX8_keep msX8_keep kX8_115 ⟨by decide, rfl⟩ hC.k0 (c_X8_keep hZ hO hC hn (by decide) hk.1 hk.2.1 hk.2.2.1 hk.2.2.2.1 hk.2.2.2.2.1 hk.2.2.2.2.2) rfl (by decide) rfl rfl (Nat.le_of_ble_eq_true rfl) (by decide) (by decide) (fun r1 μ1 hq1 => ?_)
  obtain ⟨rfl, hq2⟩ := hq1
  show zJ _ _ _ _ (.int _ :: _) _ _ _
  exact J_iret hT dX8_release_38 rfl rfl (⟨rfl, hq2⟩) (by decide) (by decide)

set_option maxRecDepth 100000 in
set_option maxHeartbeats 4000000 in
theorem x_X8_release_1 {l : Launch} {Z : zZ} (hZ : zSt l Z) {μ : zMem} {σ : zS2} {π : zP2} {g : zG2} {n : Nat} {S : zS2} (hC : CW n S μ σ π) (hX : zXs Z) {a : Int32} (h : cellB a = false) : zCtX l Z mX8_release 7 1 6 [.ref 0, .int a] (zA4 μ σ π g) "java/lang/IndexOutOfBoundsException" (fun μ' => μ' = zA4 μ σ π g) := by
  refine zCtX_of hZ mpX8_release (Nat.le_of_ble_eq_true rfl) (L := [some (.ref 0), some (.int a)]) rfl (fun τ hYX => ?_)
  have hY := hYX.1
  have hT := hY.1
  have hM := hC.m
  have hB := hM.1.tb
  refine J_iload_n (i := 1) hT dX8_release_0 rfl rfl ?_
  exact J_callSX hYX dX8_release_1 mfX8_checkCell mtX8_checkCell (Or.inl mlX8_91) (x_X8_checkCell hZ hX h) rfl (by decide) rfl rfl (Nat.le_of_ble_eq_true rfl) (by first | exact Nat.le_refl _ | decide | omega) (by first | exact Nat.le_refl _ | decide | omega) mlX8_91

set_option maxRecDepth 100000 in
set_option maxHeartbeats 4000000 in
theorem x_X8_release_2 {l : Launch} {Z : zZ} (hZ : zSt l Z) {μ : zMem} {σ : zS2} {π : zP2} {g : zG2} {n : Nat} {S : zS2} (hC : CW n S μ σ π) (hX : zXs Z) {c : Nat} (hc : c < 12) (hh : S 80 c = 0) : zCtX l Z mX8_release 7 1 6 [.ref 0, .int (nI c)] (zA4 μ σ π g) "java/lang/IllegalStateException" (fun μ' => μ' = zA4 μ σ π g) := by
  refine zCtX_of hZ mpX8_release (Nat.le_of_ble_eq_true rfl) (L := [some (.ref 0), some (.int (nI c))]) rfl (fun τ hYX => ?_)
  have hY := hYX.1
  have hT := hY.1
  have hM := hC.m
  have hB := hM.1.tb
  refine J_iload_n (i := 1) hT dX8_release_0 rfl rfl ?_
  refine R_callS0 hY dX8_release_1 mfX8_checkCell mtX8_checkCell kX8_91 (c_X8_checkCell hZ hc) rfl (by decide) rfl rfl (Nat.le_of_ble_eq_true rfl) (Nat.zero_le _) (Nat.zero_le _) ?_
  refine J_aload_n (i := 0) hT dX8_release_4 rfl rfl ?_
  refine R_getP hT fX8_28 rfl dX8_release_5 hC.k0 hC.p2 ?_
  refine R_getP hT fX8_123 rfl dX8_release_8 hB.k hB.p1 ?_
  refine J_iload_n (i := 1) hT dX8_release_11 rfl rfl ?_
  refine R_aald1 hT dX8_release_12 hB.k3 (by decide) hB.l3 (by first | exact ⟨rfl, by decide⟩ | exact zix_nI (by omega) (by decide) | assumption) (hB.pc hc) ?_
  refine R_getI hT fX8_127 rfl dX8_release_13 (hB.kc hc) ?_
  refine J_topil ((hM.1.held hc)) ?_
  refine J_if_ne (tgt := 29) hT dX8_release_16 (by decide) (fun q => absurd (hh) q) (fun _ => ?_)
  exact J_throw_ise hYX hX rfl (tx := "the cell is not held") (by decide) dX8_release_19 dX8_release_22 dX8_release_23 dX8_release_25 dX8_release_28 rfl (by decide) (rfl) (by first | exact Nat.le_refl _ | decide | omega) (by first | exact Nat.le_refl _ | decide | omega)

set_option maxRecDepth 100000 in
set_option maxHeartbeats 4000000 in
theorem x_X8_release_3 {l : Launch} {Z : zZ} (hZ : zSt l Z) {μ : zMem} {σ : zS2} {π : zP2} {g : zG2} {n : Nat} {S : zS2} (hC : CW n S μ σ π) (hX : zXs Z) {c : Nat} (hc : c < 12) (hh : S 80 c ≠ 0) (hn40 : n ≤ 40) (hn : ¬ n < 40) : zCtX l Z mX8_release 7 1 6 [.ref 0, .int (nI c)] (zA4 μ σ π g) "java/lang/IllegalStateException" (fun μ' => μ' = zA4 μ σ π g) := by
  refine zCtX_of hZ mpX8_release (Nat.le_of_ble_eq_true rfl) (L := [some (.ref 0), some (.int (nI c))]) rfl (fun τ hYX => ?_)
  have hY := hYX.1
  have hT := hY.1
  have hM := hC.m
  have hB := hM.1.tb
  refine J_iload_n (i := 1) hT dX8_release_0 rfl rfl ?_
  refine R_callS0 hY dX8_release_1 mfX8_checkCell mtX8_checkCell kX8_91 (c_X8_checkCell hZ hc) rfl (by decide) rfl rfl (Nat.le_of_ble_eq_true rfl) (Nat.zero_le _) (Nat.zero_le _) ?_
  refine J_aload_n (i := 0) hT dX8_release_4 rfl rfl ?_
  refine R_getP hT fX8_28 rfl dX8_release_5 hC.k0 hC.p2 ?_
  refine R_getP hT fX8_123 rfl dX8_release_8 hB.k hB.p1 ?_
  refine J_iload_n (i := 1) hT dX8_release_11 rfl rfl ?_
  refine R_aald1 hT dX8_release_12 hB.k3 (by decide) hB.l3 (by first | exact ⟨rfl, by decide⟩ | exact zix_nI (by omega) (by decide) | assumption) (hB.pc hc) ?_
  refine R_getI hT fX8_127 rfl dX8_release_13 (hB.kc hc) ?_
  refine J_topil ((hM.1.held hc)) ?_
  refine J_if_ne (tgt := 29) hT dX8_release_16 (by decide) (fun _ => ?_) (fun q => absurd q (hh))
  refine J_aload_n (i := 0) hT dX8_release_29 rfl rfl ?_
  refine J_iconst (v := 2) hT dX8_release_30 rfl ?_
  refine J_iload_n (i := 1) hT dX8_release_31 rfl rfl ?_
  refine J_iconst (v := 0) hT dX8_release_32 rfl ?_
  refine J_iconst (v := 0) hT dX8_release_33 rfl ?_
  refine J_null hT dX8_release_34 ?_
  exact J_callVX (ci := 8) hYX dX8_release_35 mfX8_keep miX8_keep msX8_keep ⟨by decide, rfl⟩ hC.k0 (x_X8_keep hZ hC hX hn40 hn) rfl (Nat.le_of_ble_eq_true rfl) rfl rfl (by decide) (by decide) (by decide) mlX8_115

set_option maxRecDepth 100000 in
set_option maxHeartbeats 4000000 in
theorem c_X8_mend {l : Launch} {Z : zZ} (hZ : zSt l Z) (hO : zOps Z) {μ : zMem} {σ : zS2} {π : zP2} {g : zG2} {n : Nat} {S : zS2} (hC : CW n S μ σ π) (hn : n < 40) {c : Nat} (hc : c < 5) (hh : S 92 c = 3) (hk : KS n S (9) (nI c) (0) (0)) : zCt l Z mX8_mend 7 1 6 [.ref 0, .int (nI c)] (zA4 μ σ π g) (fun r μ' => r = some (.int (nI (doF (kpS S n (9) (nI c) (0) (0)) n).2)) ∧ zKp (n + 1) (doF (kpS S n (9) (nI c) (0) (0)) n).1 μ σ π g μ') := by
  refine zCt_of hZ mpX8_mend (Nat.le_of_ble_eq_true rfl) (L := [some (.ref 0), some (.int (nI c))]) rfl (fun τ hY => ?_)
  have hT := hY.1
  have hM := hC.m
  have hB := hM.1.tb
  refine J_iload_n (i := 1) hT dX8_mend_0 rfl rfl ?_
  refine R_callS0 hY dX8_mend_1 mfX8_checkService mtX8_checkService kX8_139 (c_X8_checkService hZ hc) rfl (by decide) rfl rfl (Nat.le_of_ble_eq_true rfl) (Nat.zero_le _) (Nat.zero_le _) ?_
  refine J_aload_n (i := 0) hT dX8_mend_4 rfl rfl ?_
  refine R_getP hT fX8_28 rfl dX8_mend_5 hC.k0 hC.p2 ?_
  refine R_getP hT fX8_147 rfl dX8_mend_8 hB.k hB.p4 ?_
  refine J_iload_n (i := 1) hT dX8_mend_11 rfl rfl ?_
  refine R_aald1 hT dX8_mend_12 hB.k6 (by decide) hB.l6 (by first | exact ⟨rfl, by decide⟩ | exact zix_nI (by omega) (by decide) | assumption) (hB.ps hc) ?_
  refine R_getI hT fX8_151 rfl dX8_mend_13 (hB.ks hc) ?_
  refine J_topil ((hM.1.sst hc)) ?_
  refine J_iconst (v := 3) hT dX8_mend_16 rfl ?_
  refine J_icmp_eq (tgt := 30) hT dX8_mend_17 (by decide) (fun _ => ?_) (fun q => absurd (hh) q)
  refine J_aload_n (i := 0) hT dX8_mend_30 rfl rfl ?_
  refine J_bipush (v := 9) hT dX8_mend_31 rfl ?_
  refine J_iload_n (i := 1) hT dX8_mend_33 rfl rfl ?_
  refine J_iconst (v := 0) hT dX8_mend_34 rfl ?_
  refine J_iconst (v := 0) hT dX8_mend_35 rfl ?_
  refine J_null hT dX8_mend_36 ?_
  refine J_callV (ci := 8) hY dX8_mend_37 mfX8_keep miX8_keep msX8_keep kX8_115 ⟨by decide, rfl⟩ hC.k0 (c_X8_keep hZ hO hC hn (by decide) hk.1 hk.2.1 hk.2.2.1 hk.2.2.2.1 hk.2.2.2.2.1 hk.2.2.2.2.2) rfl (by decide) rfl rfl (Nat.le_of_ble_eq_true rfl) (by decide) (by decide) (fun r1 μ1 hq1 => ?_)
  obtain ⟨rfl, hq2⟩ := hq1
  show zJ _ _ _ _ (.int _ :: _) _ _ _
  exact J_iret hT dX8_mend_40 rfl rfl (⟨rfl, hq2⟩) (by decide) (by decide)

set_option maxRecDepth 100000 in
set_option maxHeartbeats 4000000 in
theorem x_X8_mend_1 {l : Launch} {Z : zZ} (hZ : zSt l Z) {μ : zMem} {σ : zS2} {π : zP2} {g : zG2} {n : Nat} {S : zS2} (hC : CW n S μ σ π) (hX : zXs Z) {a : Int32} (h : svcB a = false) : zCtX l Z mX8_mend 7 1 6 [.ref 0, .int a] (zA4 μ σ π g) "java/lang/IndexOutOfBoundsException" (fun μ' => μ' = zA4 μ σ π g) := by
  refine zCtX_of hZ mpX8_mend (Nat.le_of_ble_eq_true rfl) (L := [some (.ref 0), some (.int a)]) rfl (fun τ hYX => ?_)
  have hY := hYX.1
  have hT := hY.1
  have hM := hC.m
  have hB := hM.1.tb
  refine J_iload_n (i := 1) hT dX8_mend_0 rfl rfl ?_
  exact J_callSX hYX dX8_mend_1 mfX8_checkService mtX8_checkService (Or.inl mlX8_139) (x_X8_checkService hZ hX h) rfl (by decide) rfl rfl (Nat.le_of_ble_eq_true rfl) (by first | exact Nat.le_refl _ | decide | omega) (by first | exact Nat.le_refl _ | decide | omega) mlX8_139

set_option maxRecDepth 100000 in
set_option maxHeartbeats 4000000 in
theorem x_X8_mend_2 {l : Launch} {Z : zZ} (hZ : zSt l Z) {μ : zMem} {σ : zS2} {π : zP2} {g : zG2} {n : Nat} {S : zS2} (hC : CW n S μ σ π) (hX : zXs Z) {c : Nat} (hc : c < 5) (hh : S 92 c ≠ 3) : zCtX l Z mX8_mend 7 1 6 [.ref 0, .int (nI c)] (zA4 μ σ π g) "java/lang/IllegalStateException" (fun μ' => μ' = zA4 μ σ π g) := by
  refine zCtX_of hZ mpX8_mend (Nat.le_of_ble_eq_true rfl) (L := [some (.ref 0), some (.int (nI c))]) rfl (fun τ hYX => ?_)
  have hY := hYX.1
  have hT := hY.1
  have hM := hC.m
  have hB := hM.1.tb
  refine J_iload_n (i := 1) hT dX8_mend_0 rfl rfl ?_
  refine R_callS0 hY dX8_mend_1 mfX8_checkService mtX8_checkService kX8_139 (c_X8_checkService hZ hc) rfl (by decide) rfl rfl (Nat.le_of_ble_eq_true rfl) (Nat.zero_le _) (Nat.zero_le _) ?_
  refine J_aload_n (i := 0) hT dX8_mend_4 rfl rfl ?_
  refine R_getP hT fX8_28 rfl dX8_mend_5 hC.k0 hC.p2 ?_
  refine R_getP hT fX8_147 rfl dX8_mend_8 hB.k hB.p4 ?_
  refine J_iload_n (i := 1) hT dX8_mend_11 rfl rfl ?_
  refine R_aald1 hT dX8_mend_12 hB.k6 (by decide) hB.l6 (by first | exact ⟨rfl, by decide⟩ | exact zix_nI (by omega) (by decide) | assumption) (hB.ps hc) ?_
  refine R_getI hT fX8_151 rfl dX8_mend_13 (hB.ks hc) ?_
  refine J_topil ((hM.1.sst hc)) ?_
  refine J_iconst (v := 3) hT dX8_mend_16 rfl ?_
  refine J_icmp_eq (tgt := 30) hT dX8_mend_17 (by decide) (fun q => absurd q (hh)) (fun _ => ?_)
  exact J_throw_ise hYX hX rfl (tx := "the service is not cut") (by decide) dX8_mend_20 dX8_mend_23 dX8_mend_24 dX8_mend_26 dX8_mend_29 rfl (by decide) (rfl) (by first | exact Nat.le_refl _ | decide | omega) (by first | exact Nat.le_refl _ | decide | omega)

set_option maxRecDepth 100000 in
set_option maxHeartbeats 4000000 in
theorem x_X8_mend_3 {l : Launch} {Z : zZ} (hZ : zSt l Z) {μ : zMem} {σ : zS2} {π : zP2} {g : zG2} {n : Nat} {S : zS2} (hC : CW n S μ σ π) (hX : zXs Z) {c : Nat} (hc : c < 5) (hh : S 92 c = 3) (hn40 : n ≤ 40) (hn : ¬ n < 40) : zCtX l Z mX8_mend 7 1 6 [.ref 0, .int (nI c)] (zA4 μ σ π g) "java/lang/IllegalStateException" (fun μ' => μ' = zA4 μ σ π g) := by
  refine zCtX_of hZ mpX8_mend (Nat.le_of_ble_eq_true rfl) (L := [some (.ref 0), some (.int (nI c))]) rfl (fun τ hYX => ?_)
  have hY := hYX.1
  have hT := hY.1
  have hM := hC.m
  have hB := hM.1.tb
  refine J_iload_n (i := 1) hT dX8_mend_0 rfl rfl ?_
  refine R_callS0 hY dX8_mend_1 mfX8_checkService mtX8_checkService kX8_139 (c_X8_checkService hZ hc) rfl (by decide) rfl rfl (Nat.le_of_ble_eq_true rfl) (Nat.zero_le _) (Nat.zero_le _) ?_
  refine J_aload_n (i := 0) hT dX8_mend_4 rfl rfl ?_
  refine R_getP hT fX8_28 rfl dX8_mend_5 hC.k0 hC.p2 ?_
  refine R_getP hT fX8_147 rfl dX8_mend_8 hB.k hB.p4 ?_
  refine J_iload_n (i := 1) hT dX8_mend_11 rfl rfl ?_
  refine R_aald1 hT dX8_mend_12 hB.k6 (by decide) hB.l6 (by first | exact ⟨rfl, by decide⟩ | exact zix_nI (by omega) (by decide) | assumption) (hB.ps hc) ?_
  refine R_getI hT fX8_151 rfl dX8_mend_13 (hB.ks hc) ?_
  refine J_topil ((hM.1.sst hc)) ?_
  refine J_iconst (v := 3) hT dX8_mend_16 rfl ?_
  refine J_icmp_eq (tgt := 30) hT dX8_mend_17 (by decide) (fun _ => ?_) (fun q => absurd (hh) q)
  refine J_aload_n (i := 0) hT dX8_mend_30 rfl rfl ?_
  refine J_bipush (v := 9) hT dX8_mend_31 rfl ?_
  refine J_iload_n (i := 1) hT dX8_mend_33 rfl rfl ?_
  refine J_iconst (v := 0) hT dX8_mend_34 rfl ?_
  refine J_iconst (v := 0) hT dX8_mend_35 rfl ?_
  refine J_null hT dX8_mend_36 ?_
  exact J_callVX (ci := 8) hYX dX8_mend_37 mfX8_keep miX8_keep msX8_keep ⟨by decide, rfl⟩ hC.k0 (x_X8_keep hZ hC hX hn40 hn) rfl (Nat.le_of_ble_eq_true rfl) rfl rfl (by decide) (by decide) (by decide) mlX8_115

set_option maxRecDepth 100000 in
set_option maxHeartbeats 4000000 in
theorem c_X8_control {l : Launch} {Z : zZ} (hZ : zSt l Z) (hO : zOps Z) {μ : zMem} {σ : zS2} {π : zP2} {g : zG2} {n : Nat} {S : zS2} (hC : CW n S μ σ π) (hn : n < 40) {c : Nat} (hc : c < 5) {x : Int32} (hx : okC x) (hk : KS n S (4) (nI c) (x) (0)) : zCt l Z mX8_control 7 1 6 [.ref 0, .int (nI c), .int x] (zA4 μ σ π g) (fun r μ' => r = some (.int (nI (doF (kpS S n (4) (nI c) (x) (0)) n).2)) ∧ zKp (n + 1) (doF (kpS S n (4) (nI c) (x) (0)) n).1 μ σ π g μ') := by
  refine zCt_of hZ mpX8_control (Nat.le_of_ble_eq_true rfl) (L := [some (.ref 0), some (.int (nI c)), some (.int x)]) rfl (fun τ hY => ?_)
  have hT := hY.1
  have hM := hC.m
  have hB := hM.1.tb
  refine J_iload_n (i := 1) hT dX8_control_0 rfl rfl ?_
  refine R_callS0 hY dX8_control_1 mfX8_checkService mtX8_checkService kX8_139 (c_X8_checkService hZ hc) rfl (by decide) rfl rfl (Nat.le_of_ble_eq_true rfl) (Nat.zero_le _) (Nat.zero_le _) ?_
  refine J_iload_n (i := 2) hT dX8_control_4 rfl rfl ?_
  refine R_callS0 hY dX8_control_5 mfX8_checkCellOrNone mtX8_checkCellOrNone kX8_142 (c_okC hZ hx) rfl (by decide) rfl rfl (Nat.le_of_ble_eq_true rfl) (Nat.zero_le _) (Nat.zero_le _) ?_
  refine J_aload_n (i := 0) hT dX8_control_8 rfl rfl ?_
  refine J_iconst (v := 4) hT dX8_control_9 rfl ?_
  refine J_iload_n (i := 1) hT dX8_control_10 rfl rfl ?_
  refine J_iload_n (i := 2) hT dX8_control_11 rfl rfl ?_
  refine J_iconst (v := 0) hT dX8_control_12 rfl ?_
  refine J_null hT dX8_control_13 ?_
  refine J_callV (ci := 8) hY dX8_control_14 mfX8_keep miX8_keep msX8_keep kX8_115 ⟨by decide, rfl⟩ hC.k0 (c_X8_keep hZ hO hC hn (by decide) hk.1 hk.2.1 hk.2.2.1 hk.2.2.2.1 hk.2.2.2.2.1 hk.2.2.2.2.2) rfl (by decide) rfl rfl (Nat.le_of_ble_eq_true rfl) (by decide) (by decide) (fun r1 μ1 hq1 => ?_)
  obtain ⟨rfl, hq2⟩ := hq1
  show zJ _ _ _ _ (.int _ :: _) _ _ _
  exact J_iret hT dX8_control_17 rfl rfl (⟨rfl, hq2⟩) (by decide) (by decide)

set_option maxRecDepth 100000 in
set_option maxHeartbeats 4000000 in
theorem x_X8_control_1 {l : Launch} {Z : zZ} (hZ : zSt l Z) {μ : zMem} {σ : zS2} {π : zP2} {g : zG2} {n : Nat} {S : zS2} (hC : CW n S μ σ π) (hX : zXs Z) {a x : Int32} (h : svcB a = false) : zCtX l Z mX8_control 7 1 6 [.ref 0, .int a, .int x] (zA4 μ σ π g) "java/lang/IndexOutOfBoundsException" (fun μ' => μ' = zA4 μ σ π g) := by
  refine zCtX_of hZ mpX8_control (Nat.le_of_ble_eq_true rfl) (L := [some (.ref 0), some (.int a), some (.int x)]) rfl (fun τ hYX => ?_)
  have hY := hYX.1
  have hT := hY.1
  have hM := hC.m
  have hB := hM.1.tb
  refine J_iload_n (i := 1) hT dX8_control_0 rfl rfl ?_
  exact J_callSX hYX dX8_control_1 mfX8_checkService mtX8_checkService (Or.inl mlX8_139) (x_X8_checkService hZ hX h) rfl (by decide) rfl rfl (Nat.le_of_ble_eq_true rfl) (by first | exact Nat.le_refl _ | decide | omega) (by first | exact Nat.le_refl _ | decide | omega) mlX8_139

set_option maxRecDepth 100000 in
set_option maxHeartbeats 4000000 in
theorem x_X8_control_2 {l : Launch} {Z : zZ} (hZ : zSt l Z) {μ : zMem} {σ : zS2} {π : zP2} {g : zG2} {n : Nat} {S : zS2} (hC : CW n S μ σ π) (hX : zXs Z) {c : Nat} (hc : c < 5) {x : Int32} (h : cellB x = false) (hx : x ≠ -1) : zCtX l Z mX8_control 7 1 6 [.ref 0, .int (nI c), .int x] (zA4 μ σ π g) "java/lang/IndexOutOfBoundsException" (fun μ' => μ' = zA4 μ σ π g) := by
  refine zCtX_of hZ mpX8_control (Nat.le_of_ble_eq_true rfl) (L := [some (.ref 0), some (.int (nI c)), some (.int x)]) rfl (fun τ hYX => ?_)
  have hY := hYX.1
  have hT := hY.1
  have hM := hC.m
  have hB := hM.1.tb
  refine J_iload_n (i := 1) hT dX8_control_0 rfl rfl ?_
  refine R_callS0 hY dX8_control_1 mfX8_checkService mtX8_checkService kX8_139 (c_X8_checkService hZ hc) rfl (by decide) rfl rfl (Nat.le_of_ble_eq_true rfl) (Nat.zero_le _) (Nat.zero_le _) ?_
  refine J_iload_n (i := 2) hT dX8_control_4 rfl rfl ?_
  exact J_callSX hYX dX8_control_5 mfX8_checkCellOrNone mtX8_checkCellOrNone (Or.inl mlX8_142) (x_X8_checkCellOrNone hZ hX h hx) rfl (by decide) rfl rfl (Nat.le_of_ble_eq_true rfl) (by first | exact Nat.le_refl _ | decide | omega) (by first | exact Nat.le_refl _ | decide | omega) mlX8_142

set_option maxRecDepth 100000 in
set_option maxHeartbeats 4000000 in
theorem x_X8_control_3 {l : Launch} {Z : zZ} (hZ : zSt l Z) {μ : zMem} {σ : zS2} {π : zP2} {g : zG2} {n : Nat} {S : zS2} (hC : CW n S μ σ π) (hX : zXs Z) {c : Nat} (hc : c < 5) {x : Int32} (hx : okC x) (hn40 : n ≤ 40) (hn : ¬ n < 40) : zCtX l Z mX8_control 7 1 6 [.ref 0, .int (nI c), .int x] (zA4 μ σ π g) "java/lang/IllegalStateException" (fun μ' => μ' = zA4 μ σ π g) := by
  refine zCtX_of hZ mpX8_control (Nat.le_of_ble_eq_true rfl) (L := [some (.ref 0), some (.int (nI c)), some (.int x)]) rfl (fun τ hYX => ?_)
  have hY := hYX.1
  have hT := hY.1
  have hM := hC.m
  have hB := hM.1.tb
  refine J_iload_n (i := 1) hT dX8_control_0 rfl rfl ?_
  refine R_callS0 hY dX8_control_1 mfX8_checkService mtX8_checkService kX8_139 (c_X8_checkService hZ hc) rfl (by decide) rfl rfl (Nat.le_of_ble_eq_true rfl) (Nat.zero_le _) (Nat.zero_le _) ?_
  refine J_iload_n (i := 2) hT dX8_control_4 rfl rfl ?_
  refine R_callS0 hY dX8_control_5 mfX8_checkCellOrNone mtX8_checkCellOrNone kX8_142 (c_okC hZ hx) rfl (by decide) rfl rfl (Nat.le_of_ble_eq_true rfl) (Nat.zero_le _) (Nat.zero_le _) ?_
  refine J_aload_n (i := 0) hT dX8_control_8 rfl rfl ?_
  refine J_iconst (v := 4) hT dX8_control_9 rfl ?_
  refine J_iload_n (i := 1) hT dX8_control_10 rfl rfl ?_
  refine J_iload_n (i := 2) hT dX8_control_11 rfl rfl ?_
  refine J_iconst (v := 0) hT dX8_control_12 rfl ?_
  refine J_null hT dX8_control_13 ?_
  exact J_callVX (ci := 8) hYX dX8_control_14 mfX8_keep miX8_keep msX8_keep ⟨by decide, rfl⟩ hC.k0 (x_X8_keep hZ hC hX hn40 hn) rfl (Nat.le_of_ble_eq_true rfl) rfl rfl (by decide) (by decide) (by decide) mlX8_115

set_option maxRecDepth 100000 in
set_option maxHeartbeats 4000000 in
theorem c_X8_limit {l : Launch} {Z : zZ} (hZ : zSt l Z) (hO : zOps Z) {μ : zMem} {σ : zS2} {π : zP2} {g : zG2} {n : Nat} {S : zS2} (hC : CW n S μ σ π) (hn : n < 40) {c : Nat} (hc : c < 5) {x : Int32} (hx : okC x) (hk : KS n S (5) (nI c) (x) (0)) : zCt l Z mX8_limit 7 1 6 [.ref 0, .int (nI c), .int x] (zA4 μ σ π g) (fun r μ' => r = some (.int (nI (doF (kpS S n (5) (nI c) (x) (0)) n).2)) ∧ zKp (n + 1) (doF (kpS S n (5) (nI c) (x) (0)) n).1 μ σ π g μ') := by
  refine zCt_of hZ mpX8_limit (Nat.le_of_ble_eq_true rfl) (L := [some (.ref 0), some (.int (nI c)), some (.int x)]) rfl (fun τ hY => ?_)
  have hT := hY.1
  have hM := hC.m
  have hB := hM.1.tb
  refine J_iload_n (i := 1) hT dX8_limit_0 rfl rfl ?_
  refine R_callS0 hY dX8_limit_1 mfX8_checkService mtX8_checkService kX8_139 (c_X8_checkService hZ hc) rfl (by decide) rfl rfl (Nat.le_of_ble_eq_true rfl) (Nat.zero_le _) (Nat.zero_le _) ?_
  refine J_iload_n (i := 2) hT dX8_limit_4 rfl rfl ?_
  refine R_callS0 hY dX8_limit_5 mfX8_checkCellOrNone mtX8_checkCellOrNone kX8_142 (c_okC hZ hx) rfl (by decide) rfl rfl (Nat.le_of_ble_eq_true rfl) (Nat.zero_le _) (Nat.zero_le _) ?_
  refine J_aload_n (i := 0) hT dX8_limit_8 rfl rfl ?_
  refine J_iconst (v := 5) hT dX8_limit_9 rfl ?_
  refine J_iload_n (i := 1) hT dX8_limit_10 rfl rfl ?_
  refine J_iload_n (i := 2) hT dX8_limit_11 rfl rfl ?_
  refine J_iconst (v := 0) hT dX8_limit_12 rfl ?_
  refine J_null hT dX8_limit_13 ?_
  refine J_callV (ci := 8) hY dX8_limit_14 mfX8_keep miX8_keep msX8_keep kX8_115 ⟨by decide, rfl⟩ hC.k0 (c_X8_keep hZ hO hC hn (by decide) hk.1 hk.2.1 hk.2.2.1 hk.2.2.2.1 hk.2.2.2.2.1 hk.2.2.2.2.2) rfl (by decide) rfl rfl (Nat.le_of_ble_eq_true rfl) (by decide) (by decide) (fun r1 μ1 hq1 => ?_)
  obtain ⟨rfl, hq2⟩ := hq1
  show zJ _ _ _ _ (.int _ :: _) _ _ _
  exact J_iret hT dX8_limit_17 rfl rfl (⟨rfl, hq2⟩) (by decide) (by decide)

set_option maxRecDepth 100000 in
set_option maxHeartbeats 4000000 in
theorem x_X8_limit_1 {l : Launch} {Z : zZ} (hZ : zSt l Z) {μ : zMem} {σ : zS2} {π : zP2} {g : zG2} {n : Nat} {S : zS2} (hC : CW n S μ σ π) (hX : zXs Z) {a x : Int32} (h : svcB a = false) : zCtX l Z mX8_limit 7 1 6 [.ref 0, .int a, .int x] (zA4 μ σ π g) "java/lang/IndexOutOfBoundsException" (fun μ' => μ' = zA4 μ σ π g) := by
  refine zCtX_of hZ mpX8_limit (Nat.le_of_ble_eq_true rfl) (L := [some (.ref 0), some (.int a), some (.int x)]) rfl (fun τ hYX => ?_)
  have hY := hYX.1
  have hT := hY.1
  have hM := hC.m
  have hB := hM.1.tb
  refine J_iload_n (i := 1) hT dX8_limit_0 rfl rfl ?_
  exact J_callSX hYX dX8_limit_1 mfX8_checkService mtX8_checkService (Or.inl mlX8_139) (x_X8_checkService hZ hX h) rfl (by decide) rfl rfl (Nat.le_of_ble_eq_true rfl) (by first | exact Nat.le_refl _ | decide | omega) (by first | exact Nat.le_refl _ | decide | omega) mlX8_139

set_option maxRecDepth 100000 in
set_option maxHeartbeats 4000000 in
theorem x_X8_limit_2 {l : Launch} {Z : zZ} (hZ : zSt l Z) {μ : zMem} {σ : zS2} {π : zP2} {g : zG2} {n : Nat} {S : zS2} (hC : CW n S μ σ π) (hX : zXs Z) {c : Nat} (hc : c < 5) {x : Int32} (h : cellB x = false) (hx : x ≠ -1) : zCtX l Z mX8_limit 7 1 6 [.ref 0, .int (nI c), .int x] (zA4 μ σ π g) "java/lang/IndexOutOfBoundsException" (fun μ' => μ' = zA4 μ σ π g) := by
  refine zCtX_of hZ mpX8_limit (Nat.le_of_ble_eq_true rfl) (L := [some (.ref 0), some (.int (nI c)), some (.int x)]) rfl (fun τ hYX => ?_)
  have hY := hYX.1
  have hT := hY.1
  have hM := hC.m
  have hB := hM.1.tb
  refine J_iload_n (i := 1) hT dX8_limit_0 rfl rfl ?_
  refine R_callS0 hY dX8_limit_1 mfX8_checkService mtX8_checkService kX8_139 (c_X8_checkService hZ hc) rfl (by decide) rfl rfl (Nat.le_of_ble_eq_true rfl) (Nat.zero_le _) (Nat.zero_le _) ?_
  refine J_iload_n (i := 2) hT dX8_limit_4 rfl rfl ?_
  exact J_callSX hYX dX8_limit_5 mfX8_checkCellOrNone mtX8_checkCellOrNone (Or.inl mlX8_142) (x_X8_checkCellOrNone hZ hX h hx) rfl (by decide) rfl rfl (Nat.le_of_ble_eq_true rfl) (by first | exact Nat.le_refl _ | decide | omega) (by first | exact Nat.le_refl _ | decide | omega) mlX8_142

set_option maxRecDepth 100000 in
set_option maxHeartbeats 4000000 in
theorem x_X8_limit_3 {l : Launch} {Z : zZ} (hZ : zSt l Z) {μ : zMem} {σ : zS2} {π : zP2} {g : zG2} {n : Nat} {S : zS2} (hC : CW n S μ σ π) (hX : zXs Z) {c : Nat} (hc : c < 5) {x : Int32} (hx : okC x) (hn40 : n ≤ 40) (hn : ¬ n < 40) : zCtX l Z mX8_limit 7 1 6 [.ref 0, .int (nI c), .int x] (zA4 μ σ π g) "java/lang/IllegalStateException" (fun μ' => μ' = zA4 μ σ π g) := by
  refine zCtX_of hZ mpX8_limit (Nat.le_of_ble_eq_true rfl) (L := [some (.ref 0), some (.int (nI c)), some (.int x)]) rfl (fun τ hYX => ?_)
  have hY := hYX.1
  have hT := hY.1
  have hM := hC.m
  have hB := hM.1.tb
  refine J_iload_n (i := 1) hT dX8_limit_0 rfl rfl ?_
  refine R_callS0 hY dX8_limit_1 mfX8_checkService mtX8_checkService kX8_139 (c_X8_checkService hZ hc) rfl (by decide) rfl rfl (Nat.le_of_ble_eq_true rfl) (Nat.zero_le _) (Nat.zero_le _) ?_
  refine J_iload_n (i := 2) hT dX8_limit_4 rfl rfl ?_
  refine R_callS0 hY dX8_limit_5 mfX8_checkCellOrNone mtX8_checkCellOrNone kX8_142 (c_okC hZ hx) rfl (by decide) rfl rfl (Nat.le_of_ble_eq_true rfl) (Nat.zero_le _) (Nat.zero_le _) ?_
  refine J_aload_n (i := 0) hT dX8_limit_8 rfl rfl ?_
  refine J_iconst (v := 5) hT dX8_limit_9 rfl ?_
  refine J_iload_n (i := 1) hT dX8_limit_10 rfl rfl ?_
  refine J_iload_n (i := 2) hT dX8_limit_11 rfl rfl ?_
  refine J_iconst (v := 0) hT dX8_limit_12 rfl ?_
  refine J_null hT dX8_limit_13 ?_
  exact J_callVX (ci := 8) hYX dX8_limit_14 mfX8_keep miX8_keep msX8_keep ⟨by decide, rfl⟩ hC.k0 (x_X8_keep hZ hC hX hn40 hn) rfl (Nat.le_of_ble_eq_true rfl) rfl rfl (by decide) (by decide) (by decide) mlX8_115

set_option maxRecDepth 100000 in
set_option maxHeartbeats 4000000 in
theorem c_X8_demand {l : Launch} {Z : zZ} (hZ : zSt l Z) (hO : zOps Z) {μ : zMem} {σ : zS2} {π : zP2} {g : zG2} {n : Nat} {S : zS2} (hC : CW n S μ σ π) (hn : n < 40) {c : Nat} (hc : c < 5) {v w : Int32} (hv : 0 ≤ v ∧ v ≤ 1000) (hw : 0 ≤ w ∧ w ≤ 10) (hk : KS n S (6) (nI c) (v) (w)) : zCt l Z mX8_demand 7 1 6 [.ref 0, .int (nI c), .int v, .int w] (zA4 μ σ π g) (fun r μ' => r = some (.int (nI (doF (kpS S n (6) (nI c) (v) (w)) n).2)) ∧ zKp (n + 1) (doF (kpS S n (6) (nI c) (v) (w)) n).1 μ σ π g μ') := by
  refine zCt_of hZ mpX8_demand (Nat.le_of_ble_eq_true rfl) (L := [some (.ref 0), some (.int (nI c)), some (.int v), some (.int w)]) rfl (fun τ hY => ?_)
  have hT := hY.1
  have hM := hC.m
  have hB := hM.1.tb
  refine J_iload_n (i := 1) hT dX8_demand_0 rfl rfl ?_
  refine R_callS0 hY dX8_demand_1 mfX8_checkService mtX8_checkService kX8_139 (c_X8_checkService hZ hc) rfl (by decide) rfl rfl (Nat.le_of_ble_eq_true rfl) (Nat.zero_le _) (Nat.zero_le _) ?_
  refine J_iload_n (i := 2) hT dX8_demand_4 rfl rfl ?_
  refine J_iconst (v := 0) hT dX8_demand_5 rfl ?_
  refine J_sipush (v := 1000) hT dX8_demand_6 rfl ?_
  refine R_callS0 hY dX8_demand_9 mfX8_checkNumber mtX8_checkNumber kX8_119 (c_X8_checkNumber hZ hv.1 hv.2) rfl (by decide) rfl rfl (Nat.le_of_ble_eq_true rfl) (Nat.zero_le _) (Nat.zero_le _) ?_
  refine J_iload_n (i := 3) hT dX8_demand_12 rfl rfl ?_
  refine J_iconst (v := 0) hT dX8_demand_13 rfl ?_
  refine J_bipush (v := 10) hT dX8_demand_14 rfl ?_
  refine R_callS0 hY dX8_demand_16 mfX8_checkNumber mtX8_checkNumber kX8_119 (c_X8_checkNumber hZ hw.1 hw.2) rfl (by decide) rfl rfl (Nat.le_of_ble_eq_true rfl) (Nat.zero_le _) (Nat.zero_le _) ?_
  refine J_aload_n (i := 0) hT dX8_demand_19 rfl rfl ?_
  refine J_bipush (v := 6) hT dX8_demand_20 rfl ?_
  refine J_iload_n (i := 1) hT dX8_demand_22 rfl rfl ?_
  refine J_iload_n (i := 2) hT dX8_demand_23 rfl rfl ?_
  refine J_iload_n (i := 3) hT dX8_demand_24 rfl rfl ?_
  refine J_null hT dX8_demand_25 ?_
  refine J_callV (ci := 8) hY dX8_demand_26 mfX8_keep miX8_keep msX8_keep kX8_115 ⟨by decide, rfl⟩ hC.k0 (c_X8_keep hZ hO hC hn (by decide) hk.1 hk.2.1 hk.2.2.1 hk.2.2.2.1 hk.2.2.2.2.1 hk.2.2.2.2.2) rfl (by decide) rfl rfl (Nat.le_of_ble_eq_true rfl) (by decide) (by decide) (fun r1 μ1 hq1 => ?_)
  obtain ⟨rfl, hq2⟩ := hq1
  show zJ _ _ _ _ (.int _ :: _) _ _ _
  exact J_iret hT dX8_demand_29 rfl rfl (⟨rfl, hq2⟩) (by decide) (by decide)

set_option maxRecDepth 100000 in
set_option maxHeartbeats 4000000 in
theorem x_X8_demand_1 {l : Launch} {Z : zZ} (hZ : zSt l Z) {μ : zMem} {σ : zS2} {π : zP2} {g : zG2} {n : Nat} {S : zS2} (hC : CW n S μ σ π) (hX : zXs Z) {a v w : Int32} (h : svcB a = false) : zCtX l Z mX8_demand 7 1 6 [.ref 0, .int a, .int v, .int w] (zA4 μ σ π g) "java/lang/IndexOutOfBoundsException" (fun μ' => μ' = zA4 μ σ π g) := by
  refine zCtX_of hZ mpX8_demand (Nat.le_of_ble_eq_true rfl) (L := [some (.ref 0), some (.int a), some (.int v), some (.int w)]) rfl (fun τ hYX => ?_)
  have hY := hYX.1
  have hT := hY.1
  have hM := hC.m
  have hB := hM.1.tb
  refine J_iload_n (i := 1) hT dX8_demand_0 rfl rfl ?_
  exact J_callSX hYX dX8_demand_1 mfX8_checkService mtX8_checkService (Or.inl mlX8_139) (x_X8_checkService hZ hX h) rfl (by decide) rfl rfl (Nat.le_of_ble_eq_true rfl) (by first | exact Nat.le_refl _ | decide | omega) (by first | exact Nat.le_refl _ | decide | omega) mlX8_139

set_option maxRecDepth 100000 in
set_option maxHeartbeats 4000000 in
theorem x_X8_demand_2 {l : Launch} {Z : zZ} (hZ : zSt l Z) {μ : zMem} {σ : zS2} {π : zP2} {g : zG2} {n : Nat} {S : zS2} (hC : CW n S μ σ π) (hX : zXs Z) {c : Nat} (hc : c < 5) {v w : Int32} (hv : ¬ (0 ≤ v ∧ v ≤ 1000)) : zCtX l Z mX8_demand 7 1 6 [.ref 0, .int (nI c), .int v, .int w] (zA4 μ σ π g) "java/lang/IllegalArgumentException" (fun μ' => μ' = zA4 μ σ π g) := by
  refine zCtX_of hZ mpX8_demand (Nat.le_of_ble_eq_true rfl) (L := [some (.ref 0), some (.int (nI c)), some (.int v), some (.int w)]) rfl (fun τ hYX => ?_)
  have hY := hYX.1
  have hT := hY.1
  have hM := hC.m
  have hB := hM.1.tb
  refine J_iload_n (i := 1) hT dX8_demand_0 rfl rfl ?_
  refine R_callS0 hY dX8_demand_1 mfX8_checkService mtX8_checkService kX8_139 (c_X8_checkService hZ hc) rfl (by decide) rfl rfl (Nat.le_of_ble_eq_true rfl) (Nat.zero_le _) (Nat.zero_le _) ?_
  refine J_iload_n (i := 2) hT dX8_demand_4 rfl rfl ?_
  refine J_iconst (v := 0) hT dX8_demand_5 rfl ?_
  refine J_sipush (v := 1000) hT dX8_demand_6 rfl ?_
  exact J_callSX hYX dX8_demand_9 mfX8_checkNumber mtX8_checkNumber (Or.inl mlX8_119) (x_X8_checkNumber hZ hX hv) rfl (by decide) rfl rfl (Nat.le_of_ble_eq_true rfl) (by first | exact Nat.le_refl _ | decide | omega) (by first | exact Nat.le_refl _ | decide | omega) mlX8_119

set_option maxRecDepth 100000 in
set_option maxHeartbeats 4000000 in
theorem x_X8_demand_2b {l : Launch} {Z : zZ} (hZ : zSt l Z) {μ : zMem} {σ : zS2} {π : zP2} {g : zG2} {n : Nat} {S : zS2} (hC : CW n S μ σ π) (hX : zXs Z) {c : Nat} (hc : c < 5) {v w : Int32} (hv : 0 ≤ v ∧ v ≤ 1000) (hw : ¬ (0 ≤ w ∧ w ≤ 10)) : zCtX l Z mX8_demand 7 1 6 [.ref 0, .int (nI c), .int v, .int w] (zA4 μ σ π g) "java/lang/IllegalArgumentException" (fun μ' => μ' = zA4 μ σ π g) := by
  refine zCtX_of hZ mpX8_demand (Nat.le_of_ble_eq_true rfl) (L := [some (.ref 0), some (.int (nI c)), some (.int v), some (.int w)]) rfl (fun τ hYX => ?_)
  have hY := hYX.1
  have hT := hY.1
  have hM := hC.m
  have hB := hM.1.tb
  refine J_iload_n (i := 1) hT dX8_demand_0 rfl rfl ?_
  refine R_callS0 hY dX8_demand_1 mfX8_checkService mtX8_checkService kX8_139 (c_X8_checkService hZ hc) rfl (by decide) rfl rfl (Nat.le_of_ble_eq_true rfl) (Nat.zero_le _) (Nat.zero_le _) ?_
  refine J_iload_n (i := 2) hT dX8_demand_4 rfl rfl ?_
  refine J_iconst (v := 0) hT dX8_demand_5 rfl ?_
  refine J_sipush (v := 1000) hT dX8_demand_6 rfl ?_
  refine R_callS0 hY dX8_demand_9 mfX8_checkNumber mtX8_checkNumber kX8_119 (c_X8_checkNumber hZ hv.1 hv.2) rfl (by decide) rfl rfl (Nat.le_of_ble_eq_true rfl) (Nat.zero_le _) (Nat.zero_le _) ?_
  refine J_iload_n (i := 3) hT dX8_demand_12 rfl rfl ?_
  refine J_iconst (v := 0) hT dX8_demand_13 rfl ?_
  refine J_bipush (v := 10) hT dX8_demand_14 rfl ?_
  exact J_callSX hYX dX8_demand_16 mfX8_checkNumber mtX8_checkNumber (Or.inl mlX8_119) (x_X8_checkNumber hZ hX hw) rfl (by decide) rfl rfl (Nat.le_of_ble_eq_true rfl) (by first | exact Nat.le_refl _ | decide | omega) (by first | exact Nat.le_refl _ | decide | omega) mlX8_119

set_option maxRecDepth 100000 in
set_option maxHeartbeats 4000000 in
theorem x_X8_demand_3 {l : Launch} {Z : zZ} (hZ : zSt l Z) {μ : zMem} {σ : zS2} {π : zP2} {g : zG2} {n : Nat} {S : zS2} (hC : CW n S μ σ π) (hX : zXs Z) {c : Nat} (hc : c < 5) {v w : Int32} (hv : 0 ≤ v ∧ v ≤ 1000) (hw : 0 ≤ w ∧ w ≤ 10) (hn40 : n ≤ 40) (hn : ¬ n < 40) : zCtX l Z mX8_demand 7 1 6 [.ref 0, .int (nI c), .int v, .int w] (zA4 μ σ π g) "java/lang/IllegalStateException" (fun μ' => μ' = zA4 μ σ π g) := by
  refine zCtX_of hZ mpX8_demand (Nat.le_of_ble_eq_true rfl) (L := [some (.ref 0), some (.int (nI c)), some (.int v), some (.int w)]) rfl (fun τ hYX => ?_)
  have hY := hYX.1
  have hT := hY.1
  have hM := hC.m
  have hB := hM.1.tb
  refine J_iload_n (i := 1) hT dX8_demand_0 rfl rfl ?_
  refine R_callS0 hY dX8_demand_1 mfX8_checkService mtX8_checkService kX8_139 (c_X8_checkService hZ hc) rfl (by decide) rfl rfl (Nat.le_of_ble_eq_true rfl) (Nat.zero_le _) (Nat.zero_le _) ?_
  refine J_iload_n (i := 2) hT dX8_demand_4 rfl rfl ?_
  refine J_iconst (v := 0) hT dX8_demand_5 rfl ?_
  refine J_sipush (v := 1000) hT dX8_demand_6 rfl ?_
  refine R_callS0 hY dX8_demand_9 mfX8_checkNumber mtX8_checkNumber kX8_119 (c_X8_checkNumber hZ hv.1 hv.2) rfl (by decide) rfl rfl (Nat.le_of_ble_eq_true rfl) (Nat.zero_le _) (Nat.zero_le _) ?_
  refine J_iload_n (i := 3) hT dX8_demand_12 rfl rfl ?_
  refine J_iconst (v := 0) hT dX8_demand_13 rfl ?_
  refine J_bipush (v := 10) hT dX8_demand_14 rfl ?_
  refine R_callS0 hY dX8_demand_16 mfX8_checkNumber mtX8_checkNumber kX8_119 (c_X8_checkNumber hZ hw.1 hw.2) rfl (by decide) rfl rfl (Nat.le_of_ble_eq_true rfl) (Nat.zero_le _) (Nat.zero_le _) ?_
  refine J_aload_n (i := 0) hT dX8_demand_19 rfl rfl ?_
  refine J_bipush (v := 6) hT dX8_demand_20 rfl ?_
  refine J_iload_n (i := 1) hT dX8_demand_22 rfl rfl ?_
  refine J_iload_n (i := 2) hT dX8_demand_23 rfl rfl ?_
  refine J_iload_n (i := 3) hT dX8_demand_24 rfl rfl ?_
  refine J_null hT dX8_demand_25 ?_
  exact J_callVX (ci := 8) hYX dX8_demand_26 mfX8_keep miX8_keep msX8_keep ⟨by decide, rfl⟩ hC.k0 (x_X8_keep hZ hC hX hn40 hn) rfl (Nat.le_of_ble_eq_true rfl) rfl rfl (by decide) (by decide) (by decide) mlX8_115

set_option maxRecDepth 100000 in
set_option maxHeartbeats 4000000 in
theorem c_X8_need1 {l : Launch} {Z : zZ} (hZ : zSt l Z) (hO : zOps Z) {μ : zMem} {σ : zS2} {π : zP2} {g : zG2} {n : Nat} {S : zS2} (hC : CW n S μ σ π) (hn : n < 40) {c o : Nat} (hc : c < 5) (ho : o < 5) (hne : c ≠ o) {z : Int32} (hz : z ≠ 0) (hk : KS n S (7) (nI c) (nI o) (1)) : zCt l Z mX8_need 7 1 6 [.ref 0, .int (nI c), .int (nI o), .int z] (zA4 μ σ π g) (fun r μ' => r = some (.int (nI (doF (kpS S n (7) (nI c) (nI o) (1)) n).2)) ∧ zKp (n + 1) (doF (kpS S n (7) (nI c) (nI o) (1)) n).1 μ σ π g μ') := by
  refine zCt_of hZ mpX8_need (Nat.le_of_ble_eq_true rfl) (L := [some (.ref 0), some (.int (nI c)), some (.int (nI o)), some (.int z)]) rfl (fun τ hY => ?_)
  have hT := hY.1
  have hM := hC.m
  have hB := hM.1.tb
  refine J_iload_n (i := 1) hT dX8_need_0 rfl rfl ?_
  refine R_callS0 hY dX8_need_1 mfX8_checkService mtX8_checkService kX8_139 (c_X8_checkService hZ hc) rfl (by decide) rfl rfl (Nat.le_of_ble_eq_true rfl) (Nat.zero_le _) (Nat.zero_le _) ?_
  refine J_iload_n (i := 2) hT dX8_need_4 rfl rfl ?_
  refine R_callS0 hY dX8_need_5 mfX8_checkService mtX8_checkService kX8_139 (c_X8_checkService hZ ho) rfl (by decide) rfl rfl (Nat.le_of_ble_eq_true rfl) (Nat.zero_le _) (Nat.zero_le _) ?_
  refine J_iload_n (i := 1) hT dX8_need_8 rfl rfl ?_
  refine J_iload_n (i := 2) hT dX8_need_9 rfl rfl ?_
  refine J_icmp_ne (tgt := 23) hT dX8_need_10 (by decide) (fun _ => ?_) (fun q => absurd q ((fun q => hne ((nI_eq (by omega) (by omega)).mp q))))
  refine J_aload_n (i := 0) hT dX8_need_23 rfl rfl ?_
  refine J_bipush (v := 7) hT dX8_need_24 rfl ?_
  refine J_iload_n (i := 1) hT dX8_need_26 rfl rfl ?_
  refine J_iload_n (i := 2) hT dX8_need_27 rfl rfl ?_
  refine J_iload_n (i := 3) hT dX8_need_28 rfl rfl ?_
  refine J_if_eq (tgt := 36) hT dX8_need_29 (by decide) (fun q => absurd q (hz)) (fun _ => ?_)
  refine J_iconst (v := 1) hT dX8_need_32 rfl ?_
  refine J_goto (tgt := 37) hT dX8_need_33 (by decide) ?_
  refine J_null hT dX8_need_37 ?_
  refine J_callV (ci := 8) hY dX8_need_38 mfX8_keep miX8_keep msX8_keep kX8_115 ⟨by decide, rfl⟩ hC.k0 (c_X8_keep hZ hO hC hn (by decide) hk.1 hk.2.1 hk.2.2.1 hk.2.2.2.1 hk.2.2.2.2.1 hk.2.2.2.2.2) rfl (by decide) rfl rfl (Nat.le_of_ble_eq_true rfl) (by decide) (by decide) (fun r1 μ1 hq1 => ?_)
  obtain ⟨rfl, hq2⟩ := hq1
  show zJ _ _ _ _ (.int _ :: _) _ _ _
  exact J_iret hT dX8_need_41 rfl rfl (⟨rfl, hq2⟩) (by decide) (by decide)

set_option maxRecDepth 100000 in
set_option maxHeartbeats 4000000 in
theorem c_X8_need0 {l : Launch} {Z : zZ} (hZ : zSt l Z) (hO : zOps Z) {μ : zMem} {σ : zS2} {π : zP2} {g : zG2} {n : Nat} {S : zS2} (hC : CW n S μ σ π) (hn : n < 40) {c o : Nat} (hc : c < 5) (ho : o < 5) (hne : c ≠ o) {z : Int32} (hz : z = 0) (hk : KS n S (7) (nI c) (nI o) (0)) : zCt l Z mX8_need 7 1 6 [.ref 0, .int (nI c), .int (nI o), .int z] (zA4 μ σ π g) (fun r μ' => r = some (.int (nI (doF (kpS S n (7) (nI c) (nI o) (0)) n).2)) ∧ zKp (n + 1) (doF (kpS S n (7) (nI c) (nI o) (0)) n).1 μ σ π g μ') := by
  refine zCt_of hZ mpX8_need (Nat.le_of_ble_eq_true rfl) (L := [some (.ref 0), some (.int (nI c)), some (.int (nI o)), some (.int z)]) rfl (fun τ hY => ?_)
  have hT := hY.1
  have hM := hC.m
  have hB := hM.1.tb
  refine J_iload_n (i := 1) hT dX8_need_0 rfl rfl ?_
  refine R_callS0 hY dX8_need_1 mfX8_checkService mtX8_checkService kX8_139 (c_X8_checkService hZ hc) rfl (by decide) rfl rfl (Nat.le_of_ble_eq_true rfl) (Nat.zero_le _) (Nat.zero_le _) ?_
  refine J_iload_n (i := 2) hT dX8_need_4 rfl rfl ?_
  refine R_callS0 hY dX8_need_5 mfX8_checkService mtX8_checkService kX8_139 (c_X8_checkService hZ ho) rfl (by decide) rfl rfl (Nat.le_of_ble_eq_true rfl) (Nat.zero_le _) (Nat.zero_le _) ?_
  refine J_iload_n (i := 1) hT dX8_need_8 rfl rfl ?_
  refine J_iload_n (i := 2) hT dX8_need_9 rfl rfl ?_
  refine J_icmp_ne (tgt := 23) hT dX8_need_10 (by decide) (fun _ => ?_) (fun q => absurd q ((fun q => hne ((nI_eq (by omega) (by omega)).mp q))))
  refine J_aload_n (i := 0) hT dX8_need_23 rfl rfl ?_
  refine J_bipush (v := 7) hT dX8_need_24 rfl ?_
  refine J_iload_n (i := 1) hT dX8_need_26 rfl rfl ?_
  refine J_iload_n (i := 2) hT dX8_need_27 rfl rfl ?_
  refine J_iload_n (i := 3) hT dX8_need_28 rfl rfl ?_
  refine J_if_eq (tgt := 36) hT dX8_need_29 (by decide) (fun _ => ?_) (fun q => absurd (hz) q)
  refine J_iconst (v := 0) hT dX8_need_36 rfl ?_
  refine J_null hT dX8_need_37 ?_
  refine J_callV (ci := 8) hY dX8_need_38 mfX8_keep miX8_keep msX8_keep kX8_115 ⟨by decide, rfl⟩ hC.k0 (c_X8_keep hZ hO hC hn (by decide) hk.1 hk.2.1 hk.2.2.1 hk.2.2.2.1 hk.2.2.2.2.1 hk.2.2.2.2.2) rfl (by decide) rfl rfl (Nat.le_of_ble_eq_true rfl) (by decide) (by decide) (fun r1 μ1 hq1 => ?_)
  obtain ⟨rfl, hq2⟩ := hq1
  show zJ _ _ _ _ (.int _ :: _) _ _ _
  exact J_iret hT dX8_need_41 rfl rfl (⟨rfl, hq2⟩) (by decide) (by decide)

set_option maxRecDepth 100000 in
set_option maxHeartbeats 4000000 in
theorem x_X8_need_1 {l : Launch} {Z : zZ} (hZ : zSt l Z) {μ : zMem} {σ : zS2} {π : zP2} {g : zG2} {n : Nat} {S : zS2} (hC : CW n S μ σ π) (hX : zXs Z) {a o z : Int32} (h : svcB a = false) : zCtX l Z mX8_need 7 1 6 [.ref 0, .int a, .int o, .int z] (zA4 μ σ π g) "java/lang/IndexOutOfBoundsException" (fun μ' => μ' = zA4 μ σ π g) := by
  refine zCtX_of hZ mpX8_need (Nat.le_of_ble_eq_true rfl) (L := [some (.ref 0), some (.int a), some (.int o), some (.int z)]) rfl (fun τ hYX => ?_)
  have hY := hYX.1
  have hT := hY.1
  have hM := hC.m
  have hB := hM.1.tb
  refine J_iload_n (i := 1) hT dX8_need_0 rfl rfl ?_
  exact J_callSX hYX dX8_need_1 mfX8_checkService mtX8_checkService (Or.inl mlX8_139) (x_X8_checkService hZ hX h) rfl (by decide) rfl rfl (Nat.le_of_ble_eq_true rfl) (by first | exact Nat.le_refl _ | decide | omega) (by first | exact Nat.le_refl _ | decide | omega) mlX8_139

set_option maxRecDepth 100000 in
set_option maxHeartbeats 4000000 in
theorem x_X8_need_1b {l : Launch} {Z : zZ} (hZ : zSt l Z) {μ : zMem} {σ : zS2} {π : zP2} {g : zG2} {n : Nat} {S : zS2} (hC : CW n S μ σ π) (hX : zXs Z) {c : Nat} (hc : c < 5) {o z : Int32} (h : svcB o = false) : zCtX l Z mX8_need 7 1 6 [.ref 0, .int (nI c), .int o, .int z] (zA4 μ σ π g) "java/lang/IndexOutOfBoundsException" (fun μ' => μ' = zA4 μ σ π g) := by
  refine zCtX_of hZ mpX8_need (Nat.le_of_ble_eq_true rfl) (L := [some (.ref 0), some (.int (nI c)), some (.int o), some (.int z)]) rfl (fun τ hYX => ?_)
  have hY := hYX.1
  have hT := hY.1
  have hM := hC.m
  have hB := hM.1.tb
  refine J_iload_n (i := 1) hT dX8_need_0 rfl rfl ?_
  refine R_callS0 hY dX8_need_1 mfX8_checkService mtX8_checkService kX8_139 (c_X8_checkService hZ hc) rfl (by decide) rfl rfl (Nat.le_of_ble_eq_true rfl) (Nat.zero_le _) (Nat.zero_le _) ?_
  refine J_iload_n (i := 2) hT dX8_need_4 rfl rfl ?_
  exact J_callSX hYX dX8_need_5 mfX8_checkService mtX8_checkService (Or.inl mlX8_139) (x_X8_checkService hZ hX h) rfl (by decide) rfl rfl (Nat.le_of_ble_eq_true rfl) (by first | exact Nat.le_refl _ | decide | omega) (by first | exact Nat.le_refl _ | decide | omega) mlX8_139

set_option maxRecDepth 100000 in
set_option maxHeartbeats 4000000 in
theorem x_X8_need_2 {l : Launch} {Z : zZ} (hZ : zSt l Z) {μ : zMem} {σ : zS2} {π : zP2} {g : zG2} {n : Nat} {S : zS2} (hC : CW n S μ σ π) (hX : zXs Z) {c : Nat} (hc : c < 5) {z : Int32} : zCtX l Z mX8_need 7 1 6 [.ref 0, .int (nI c), .int (nI c), .int z] (zA4 μ σ π g) "java/lang/IllegalArgumentException" (fun μ' => μ' = zA4 μ σ π g) := by
  refine zCtX_of hZ mpX8_need (Nat.le_of_ble_eq_true rfl) (L := [some (.ref 0), some (.int (nI c)), some (.int (nI c)), some (.int z)]) rfl (fun τ hYX => ?_)
  have hY := hYX.1
  have hT := hY.1
  have hM := hC.m
  have hB := hM.1.tb
  refine J_iload_n (i := 1) hT dX8_need_0 rfl rfl ?_
  refine R_callS0 hY dX8_need_1 mfX8_checkService mtX8_checkService kX8_139 (c_X8_checkService hZ hc) rfl (by decide) rfl rfl (Nat.le_of_ble_eq_true rfl) (Nat.zero_le _) (Nat.zero_le _) ?_
  refine J_iload_n (i := 2) hT dX8_need_4 rfl rfl ?_
  refine R_callS0 hY dX8_need_5 mfX8_checkService mtX8_checkService kX8_139 (c_X8_checkService hZ hc) rfl (by decide) rfl rfl (Nat.le_of_ble_eq_true rfl) (Nat.zero_le _) (Nat.zero_le _) ?_
  refine J_iload_n (i := 1) hT dX8_need_8 rfl rfl ?_
  refine J_iload_n (i := 2) hT dX8_need_9 rfl rfl ?_
  refine J_icmp_ne (tgt := 23) hT dX8_need_10 (by decide) (fun q => absurd (rfl) q) (fun _ => ?_)
  exact J_throw_iae hYX hX rfl (tx := "a service does not need itself") (by decide) dX8_need_13 dX8_need_16 dX8_need_17 dX8_need_19 dX8_need_22 rfl (by decide) (rfl) (by first | exact Nat.le_refl _ | decide | omega) (by first | exact Nat.le_refl _ | decide | omega)

set_option maxRecDepth 100000 in
set_option maxHeartbeats 4000000 in
theorem x_X8_need_3 {l : Launch} {Z : zZ} (hZ : zSt l Z) {μ : zMem} {σ : zS2} {π : zP2} {g : zG2} {n : Nat} {S : zS2} (hC : CW n S μ σ π) (hX : zXs Z) {c o : Nat} (hc : c < 5) (ho : o < 5) (hne : c ≠ o) {z : Int32} (hz : z ≠ 0) (hn40 : n ≤ 40) (hn : ¬ n < 40) : zCtX l Z mX8_need 7 1 6 [.ref 0, .int (nI c), .int (nI o), .int z] (zA4 μ σ π g) "java/lang/IllegalStateException" (fun μ' => μ' = zA4 μ σ π g) := by
  refine zCtX_of hZ mpX8_need (Nat.le_of_ble_eq_true rfl) (L := [some (.ref 0), some (.int (nI c)), some (.int (nI o)), some (.int z)]) rfl (fun τ hYX => ?_)
  have hY := hYX.1
  have hT := hY.1
  have hM := hC.m
  have hB := hM.1.tb
  refine J_iload_n (i := 1) hT dX8_need_0 rfl rfl ?_
  refine R_callS0 hY dX8_need_1 mfX8_checkService mtX8_checkService kX8_139 (c_X8_checkService hZ hc) rfl (by decide) rfl rfl (Nat.le_of_ble_eq_true rfl) (Nat.zero_le _) (Nat.zero_le _) ?_
  refine J_iload_n (i := 2) hT dX8_need_4 rfl rfl ?_
  refine R_callS0 hY dX8_need_5 mfX8_checkService mtX8_checkService kX8_139 (c_X8_checkService hZ ho) rfl (by decide) rfl rfl (Nat.le_of_ble_eq_true rfl) (Nat.zero_le _) (Nat.zero_le _) ?_
  refine J_iload_n (i := 1) hT dX8_need_8 rfl rfl ?_
  refine J_iload_n (i := 2) hT dX8_need_9 rfl rfl ?_
  refine J_icmp_ne (tgt := 23) hT dX8_need_10 (by decide) (fun _ => ?_) (fun q => absurd q ((fun q => hne ((nI_eq (by omega) (by omega)).mp q))))
  refine J_aload_n (i := 0) hT dX8_need_23 rfl rfl ?_
  refine J_bipush (v := 7) hT dX8_need_24 rfl ?_
  refine J_iload_n (i := 1) hT dX8_need_26 rfl rfl ?_
  refine J_iload_n (i := 2) hT dX8_need_27 rfl rfl ?_
  refine J_iload_n (i := 3) hT dX8_need_28 rfl rfl ?_
  refine J_if_eq (tgt := 36) hT dX8_need_29 (by decide) (fun q => absurd q (hz)) (fun _ => ?_)
  refine J_iconst (v := 1) hT dX8_need_32 rfl ?_
  refine J_goto (tgt := 37) hT dX8_need_33 (by decide) ?_
  refine J_null hT dX8_need_37 ?_
  exact J_callVX (ci := 8) hYX dX8_need_38 mfX8_keep miX8_keep msX8_keep ⟨by decide, rfl⟩ hC.k0 (x_X8_keep hZ hC hX hn40 hn) rfl (Nat.le_of_ble_eq_true rfl) rfl rfl (by decide) (by decide) (by decide) mlX8_115

set_option maxRecDepth 100000 in
set_option maxHeartbeats 4000000 in
theorem x_X8_need_3b {l : Launch} {Z : zZ} (hZ : zSt l Z) {μ : zMem} {σ : zS2} {π : zP2} {g : zG2} {n : Nat} {S : zS2} (hC : CW n S μ σ π) (hX : zXs Z) {c o : Nat} (hc : c < 5) (ho : o < 5) (hne : c ≠ o) {z : Int32} (hz : z = 0) (hn40 : n ≤ 40) (hn : ¬ n < 40) : zCtX l Z mX8_need 7 1 6 [.ref 0, .int (nI c), .int (nI o), .int z] (zA4 μ σ π g) "java/lang/IllegalStateException" (fun μ' => μ' = zA4 μ σ π g) := by
  refine zCtX_of hZ mpX8_need (Nat.le_of_ble_eq_true rfl) (L := [some (.ref 0), some (.int (nI c)), some (.int (nI o)), some (.int z)]) rfl (fun τ hYX => ?_)
  have hY := hYX.1
  have hT := hY.1
  have hM := hC.m
  have hB := hM.1.tb
  refine J_iload_n (i := 1) hT dX8_need_0 rfl rfl ?_
  refine R_callS0 hY dX8_need_1 mfX8_checkService mtX8_checkService kX8_139 (c_X8_checkService hZ hc) rfl (by decide) rfl rfl (Nat.le_of_ble_eq_true rfl) (Nat.zero_le _) (Nat.zero_le _) ?_
  refine J_iload_n (i := 2) hT dX8_need_4 rfl rfl ?_
  refine R_callS0 hY dX8_need_5 mfX8_checkService mtX8_checkService kX8_139 (c_X8_checkService hZ ho) rfl (by decide) rfl rfl (Nat.le_of_ble_eq_true rfl) (Nat.zero_le _) (Nat.zero_le _) ?_
  refine J_iload_n (i := 1) hT dX8_need_8 rfl rfl ?_
  refine J_iload_n (i := 2) hT dX8_need_9 rfl rfl ?_
  refine J_icmp_ne (tgt := 23) hT dX8_need_10 (by decide) (fun _ => ?_) (fun q => absurd q ((fun q => hne ((nI_eq (by omega) (by omega)).mp q))))
  refine J_aload_n (i := 0) hT dX8_need_23 rfl rfl ?_
  refine J_bipush (v := 7) hT dX8_need_24 rfl ?_
  refine J_iload_n (i := 1) hT dX8_need_26 rfl rfl ?_
  refine J_iload_n (i := 2) hT dX8_need_27 rfl rfl ?_
  refine J_iload_n (i := 3) hT dX8_need_28 rfl rfl ?_
  refine J_if_eq (tgt := 36) hT dX8_need_29 (by decide) (fun _ => ?_) (fun q => absurd (hz) q)
  refine J_iconst (v := 0) hT dX8_need_36 rfl ?_
  refine J_null hT dX8_need_37 ?_
  exact J_callVX (ci := 8) hYX dX8_need_38 mfX8_keep miX8_keep msX8_keep ⟨by decide, rfl⟩ hC.k0 (x_X8_keep hZ hC hX hn40 hn) rfl (Nat.le_of_ble_eq_true rfl) rfl rfl (by decide) (by decide) (by decide) mlX8_115

set_option maxRecDepth 100000 in
set_option maxHeartbeats 4000000 in
theorem c_X8_lie {l : Launch} {Z : zZ} (hZ : zSt l Z) (hO : zOps Z) {μ : zMem} {σ : zS2} {π : zP2} {g : zG2} {n : Nat} {S : zS2} (hC : CW n S μ σ π) (hn : n < 40) {c : Nat} (hc : c < 5) {v : Int32} (hv : 0 ≤ v ∧ v ≤ 1000) (hk : KS n S (8) (nI c) (v) (0)) : zCt l Z mX8_lie 7 1 6 [.ref 0, .int (nI c), .int v] (zA4 μ σ π g) (fun r μ' => r = some (.int (nI (doF (kpS S n (8) (nI c) (v) (0)) n).2)) ∧ zKp (n + 1) (doF (kpS S n (8) (nI c) (v) (0)) n).1 μ σ π g μ') := by
  refine zCt_of hZ mpX8_lie (Nat.le_of_ble_eq_true rfl) (L := [some (.ref 0), some (.int (nI c)), some (.int v)]) rfl (fun τ hY => ?_)
  have hT := hY.1
  have hM := hC.m
  have hB := hM.1.tb
  refine J_iload_n (i := 1) hT dX8_lie_0 rfl rfl ?_
  refine R_callS0 hY dX8_lie_1 mfX8_checkService mtX8_checkService kX8_139 (c_X8_checkService hZ hc) rfl (by decide) rfl rfl (Nat.le_of_ble_eq_true rfl) (Nat.zero_le _) (Nat.zero_le _) ?_
  refine J_iload_n (i := 2) hT dX8_lie_4 rfl rfl ?_
  refine J_iconst (v := -1) hT dX8_lie_5 rfl ?_
  refine J_icmp_eq (tgt := 17) hT dX8_lie_6 (by decide) (fun q => absurd q ((fun q => by rw [q] at hv; exact absurd hv.1 (by decide)))) (fun _ => ?_)
  refine J_iload_n (i := 2) hT dX8_lie_9 rfl rfl ?_
  refine J_iconst (v := 0) hT dX8_lie_10 rfl ?_
  refine J_sipush (v := 1000) hT dX8_lie_11 rfl ?_
  refine R_callS0 hY dX8_lie_14 mfX8_checkNumber mtX8_checkNumber kX8_119 (c_X8_checkNumber hZ hv.1 hv.2) rfl (by decide) rfl rfl (Nat.le_of_ble_eq_true rfl) (Nat.zero_le _) (Nat.zero_le _) ?_
  refine J_aload_n (i := 0) hT dX8_lie_17 rfl rfl ?_
  refine J_bipush (v := 8) hT dX8_lie_18 rfl ?_
  refine J_iload_n (i := 1) hT dX8_lie_20 rfl rfl ?_
  refine J_iload_n (i := 2) hT dX8_lie_21 rfl rfl ?_
  refine J_iconst (v := 0) hT dX8_lie_22 rfl ?_
  refine J_null hT dX8_lie_23 ?_
  refine J_callV (ci := 8) hY dX8_lie_24 mfX8_keep miX8_keep msX8_keep kX8_115 ⟨by decide, rfl⟩ hC.k0 (c_X8_keep hZ hO hC hn (by decide) hk.1 hk.2.1 hk.2.2.1 hk.2.2.2.1 hk.2.2.2.2.1 hk.2.2.2.2.2) rfl (by decide) rfl rfl (Nat.le_of_ble_eq_true rfl) (by decide) (by decide) (fun r1 μ1 hq1 => ?_)
  obtain ⟨rfl, hq2⟩ := hq1
  show zJ _ _ _ _ (.int _ :: _) _ _ _
  exact J_iret hT dX8_lie_27 rfl rfl (⟨rfl, hq2⟩) (by decide) (by decide)

set_option maxRecDepth 100000 in
set_option maxHeartbeats 4000000 in
theorem c_X8_lieN {l : Launch} {Z : zZ} (hZ : zSt l Z) (hO : zOps Z) {μ : zMem} {σ : zS2} {π : zP2} {g : zG2} {n : Nat} {S : zS2} (hC : CW n S μ σ π) (hn : n < 40) {c : Nat} (hc : c < 5) (hk : KS n S (8) (nI c) (-1) (0)) : zCt l Z mX8_lie 7 1 6 [.ref 0, .int (nI c), .int (-1)] (zA4 μ σ π g) (fun r μ' => r = some (.int (nI (doF (kpS S n (8) (nI c) (-1) (0)) n).2)) ∧ zKp (n + 1) (doF (kpS S n (8) (nI c) (-1) (0)) n).1 μ σ π g μ') := by
  refine zCt_of hZ mpX8_lie (Nat.le_of_ble_eq_true rfl) (L := [some (.ref 0), some (.int (nI c)), some (.int (-1))]) rfl (fun τ hY => ?_)
  have hT := hY.1
  have hM := hC.m
  have hB := hM.1.tb
  refine J_iload_n (i := 1) hT dX8_lie_0 rfl rfl ?_
  refine R_callS0 hY dX8_lie_1 mfX8_checkService mtX8_checkService kX8_139 (c_X8_checkService hZ hc) rfl (by decide) rfl rfl (Nat.le_of_ble_eq_true rfl) (Nat.zero_le _) (Nat.zero_le _) ?_
  refine J_iload_n (i := 2) hT dX8_lie_4 rfl rfl ?_
  refine J_iconst (v := -1) hT dX8_lie_5 rfl ?_
  refine J_icmp_eq (tgt := 17) hT dX8_lie_6 (by decide) (fun _ => ?_) (fun q => absurd (rfl) q)
  refine J_aload_n (i := 0) hT dX8_lie_17 rfl rfl ?_
  refine J_bipush (v := 8) hT dX8_lie_18 rfl ?_
  refine J_iload_n (i := 1) hT dX8_lie_20 rfl rfl ?_
  refine J_iload_n (i := 2) hT dX8_lie_21 rfl rfl ?_
  refine J_iconst (v := 0) hT dX8_lie_22 rfl ?_
  refine J_null hT dX8_lie_23 ?_
  refine J_callV (ci := 8) hY dX8_lie_24 mfX8_keep miX8_keep msX8_keep kX8_115 ⟨by decide, rfl⟩ hC.k0 (c_X8_keep hZ hO hC hn (by decide) hk.1 hk.2.1 hk.2.2.1 hk.2.2.2.1 hk.2.2.2.2.1 hk.2.2.2.2.2) rfl (by decide) rfl rfl (Nat.le_of_ble_eq_true rfl) (by decide) (by decide) (fun r1 μ1 hq1 => ?_)
  obtain ⟨rfl, hq2⟩ := hq1
  show zJ _ _ _ _ (.int _ :: _) _ _ _
  exact J_iret hT dX8_lie_27 rfl rfl (⟨rfl, hq2⟩) (by decide) (by decide)

set_option maxRecDepth 100000 in
set_option maxHeartbeats 4000000 in
theorem x_X8_lie_1 {l : Launch} {Z : zZ} (hZ : zSt l Z) {μ : zMem} {σ : zS2} {π : zP2} {g : zG2} {n : Nat} {S : zS2} (hC : CW n S μ σ π) (hX : zXs Z) {a v : Int32} (h : svcB a = false) : zCtX l Z mX8_lie 7 1 6 [.ref 0, .int a, .int v] (zA4 μ σ π g) "java/lang/IndexOutOfBoundsException" (fun μ' => μ' = zA4 μ σ π g) := by
  refine zCtX_of hZ mpX8_lie (Nat.le_of_ble_eq_true rfl) (L := [some (.ref 0), some (.int a), some (.int v)]) rfl (fun τ hYX => ?_)
  have hY := hYX.1
  have hT := hY.1
  have hM := hC.m
  have hB := hM.1.tb
  refine J_iload_n (i := 1) hT dX8_lie_0 rfl rfl ?_
  exact J_callSX hYX dX8_lie_1 mfX8_checkService mtX8_checkService (Or.inl mlX8_139) (x_X8_checkService hZ hX h) rfl (by decide) rfl rfl (Nat.le_of_ble_eq_true rfl) (by first | exact Nat.le_refl _ | decide | omega) (by first | exact Nat.le_refl _ | decide | omega) mlX8_139

set_option maxRecDepth 100000 in
set_option maxHeartbeats 4000000 in
theorem x_X8_lie_2 {l : Launch} {Z : zZ} (hZ : zSt l Z) {μ : zMem} {σ : zS2} {π : zP2} {g : zG2} {n : Nat} {S : zS2} (hC : CW n S μ σ π) (hX : zXs Z) {c : Nat} (hc : c < 5) {v : Int32} (hv : ¬ (0 ≤ v ∧ v ≤ 1000)) (hv1 : v ≠ -1) : zCtX l Z mX8_lie 7 1 6 [.ref 0, .int (nI c), .int v] (zA4 μ σ π g) "java/lang/IllegalArgumentException" (fun μ' => μ' = zA4 μ σ π g) := by
  refine zCtX_of hZ mpX8_lie (Nat.le_of_ble_eq_true rfl) (L := [some (.ref 0), some (.int (nI c)), some (.int v)]) rfl (fun τ hYX => ?_)
  have hY := hYX.1
  have hT := hY.1
  have hM := hC.m
  have hB := hM.1.tb
  refine J_iload_n (i := 1) hT dX8_lie_0 rfl rfl ?_
  refine R_callS0 hY dX8_lie_1 mfX8_checkService mtX8_checkService kX8_139 (c_X8_checkService hZ hc) rfl (by decide) rfl rfl (Nat.le_of_ble_eq_true rfl) (Nat.zero_le _) (Nat.zero_le _) ?_
  refine J_iload_n (i := 2) hT dX8_lie_4 rfl rfl ?_
  refine J_iconst (v := -1) hT dX8_lie_5 rfl ?_
  refine J_icmp_eq (tgt := 17) hT dX8_lie_6 (by decide) (fun q => absurd q (hv1)) (fun _ => ?_)
  refine J_iload_n (i := 2) hT dX8_lie_9 rfl rfl ?_
  refine J_iconst (v := 0) hT dX8_lie_10 rfl ?_
  refine J_sipush (v := 1000) hT dX8_lie_11 rfl ?_
  exact J_callSX hYX dX8_lie_14 mfX8_checkNumber mtX8_checkNumber (Or.inl mlX8_119) (x_X8_checkNumber hZ hX hv) rfl (by decide) rfl rfl (Nat.le_of_ble_eq_true rfl) (by first | exact Nat.le_refl _ | decide | omega) (by first | exact Nat.le_refl _ | decide | omega) mlX8_119

set_option maxRecDepth 100000 in
set_option maxHeartbeats 4000000 in
theorem x_X8_lie_3 {l : Launch} {Z : zZ} (hZ : zSt l Z) {μ : zMem} {σ : zS2} {π : zP2} {g : zG2} {n : Nat} {S : zS2} (hC : CW n S μ σ π) (hX : zXs Z) {c : Nat} (hc : c < 5) {v : Int32} (hv : 0 ≤ v ∧ v ≤ 1000) (hn40 : n ≤ 40) (hn : ¬ n < 40) : zCtX l Z mX8_lie 7 1 6 [.ref 0, .int (nI c), .int v] (zA4 μ σ π g) "java/lang/IllegalStateException" (fun μ' => μ' = zA4 μ σ π g) := by
  refine zCtX_of hZ mpX8_lie (Nat.le_of_ble_eq_true rfl) (L := [some (.ref 0), some (.int (nI c)), some (.int v)]) rfl (fun τ hYX => ?_)
  have hY := hYX.1
  have hT := hY.1
  have hM := hC.m
  have hB := hM.1.tb
  refine J_iload_n (i := 1) hT dX8_lie_0 rfl rfl ?_
  refine R_callS0 hY dX8_lie_1 mfX8_checkService mtX8_checkService kX8_139 (c_X8_checkService hZ hc) rfl (by decide) rfl rfl (Nat.le_of_ble_eq_true rfl) (Nat.zero_le _) (Nat.zero_le _) ?_
  refine J_iload_n (i := 2) hT dX8_lie_4 rfl rfl ?_
  refine J_iconst (v := -1) hT dX8_lie_5 rfl ?_
  refine J_icmp_eq (tgt := 17) hT dX8_lie_6 (by decide) (fun q => absurd q ((fun q => by rw [q] at hv; exact absurd hv.1 (by decide)))) (fun _ => ?_)
  refine J_iload_n (i := 2) hT dX8_lie_9 rfl rfl ?_
  refine J_iconst (v := 0) hT dX8_lie_10 rfl ?_
  refine J_sipush (v := 1000) hT dX8_lie_11 rfl ?_
  refine R_callS0 hY dX8_lie_14 mfX8_checkNumber mtX8_checkNumber kX8_119 (c_X8_checkNumber hZ hv.1 hv.2) rfl (by decide) rfl rfl (Nat.le_of_ble_eq_true rfl) (Nat.zero_le _) (Nat.zero_le _) ?_
  refine J_aload_n (i := 0) hT dX8_lie_17 rfl rfl ?_
  refine J_bipush (v := 8) hT dX8_lie_18 rfl ?_
  refine J_iload_n (i := 1) hT dX8_lie_20 rfl rfl ?_
  refine J_iload_n (i := 2) hT dX8_lie_21 rfl rfl ?_
  refine J_iconst (v := 0) hT dX8_lie_22 rfl ?_
  refine J_null hT dX8_lie_23 ?_
  exact J_callVX (ci := 8) hYX dX8_lie_24 mfX8_keep miX8_keep msX8_keep ⟨by decide, rfl⟩ hC.k0 (x_X8_keep hZ hC hX hn40 hn) rfl (Nat.le_of_ble_eq_true rfl) rfl rfl (by decide) (by decide) (by decide) mlX8_115

set_option maxRecDepth 100000 in
set_option maxHeartbeats 4000000 in
theorem x_X8_lie_3b {l : Launch} {Z : zZ} (hZ : zSt l Z) {μ : zMem} {σ : zS2} {π : zP2} {g : zG2} {n : Nat} {S : zS2} (hC : CW n S μ σ π) (hX : zXs Z) {c : Nat} (hc : c < 5) (hn40 : n ≤ 40) (hn : ¬ n < 40) : zCtX l Z mX8_lie 7 1 6 [.ref 0, .int (nI c), .int (-1)] (zA4 μ σ π g) "java/lang/IllegalStateException" (fun μ' => μ' = zA4 μ σ π g) := by
  refine zCtX_of hZ mpX8_lie (Nat.le_of_ble_eq_true rfl) (L := [some (.ref 0), some (.int (nI c)), some (.int (-1))]) rfl (fun τ hYX => ?_)
  have hY := hYX.1
  have hT := hY.1
  have hM := hC.m
  have hB := hM.1.tb
  refine J_iload_n (i := 1) hT dX8_lie_0 rfl rfl ?_
  refine R_callS0 hY dX8_lie_1 mfX8_checkService mtX8_checkService kX8_139 (c_X8_checkService hZ hc) rfl (by decide) rfl rfl (Nat.le_of_ble_eq_true rfl) (Nat.zero_le _) (Nat.zero_le _) ?_
  refine J_iload_n (i := 2) hT dX8_lie_4 rfl rfl ?_
  refine J_iconst (v := -1) hT dX8_lie_5 rfl ?_
  refine J_icmp_eq (tgt := 17) hT dX8_lie_6 (by decide) (fun _ => ?_) (fun q => absurd (rfl) q)
  refine J_aload_n (i := 0) hT dX8_lie_17 rfl rfl ?_
  refine J_bipush (v := 8) hT dX8_lie_18 rfl ?_
  refine J_iload_n (i := 1) hT dX8_lie_20 rfl rfl ?_
  refine J_iload_n (i := 2) hT dX8_lie_21 rfl rfl ?_
  refine J_iconst (v := 0) hT dX8_lie_22 rfl ?_
  refine J_null hT dX8_lie_23 ?_
  exact J_callVX (ci := 8) hYX dX8_lie_24 mfX8_keep miX8_keep msX8_keep ⟨by decide, rfl⟩ hC.k0 (x_X8_keep hZ hC hX hn40 hn) rfl (Nat.le_of_ble_eq_true rfl) rfl rfl (by decide) (by decide) (by decide) mlX8_115

set_option maxRecDepth 100000 in
set_option maxHeartbeats 4000000 in
theorem c_X8_tick {l : Launch} {Z : zZ} (hZ : zSt l Z) (hO : zOps Z) {μ : zMem} {σ : zS2} {π : zP2} {g : zG2} {n : Nat} {S : zS2} (hC : CW n S μ σ π) (hn : n < 40) {v : Int32} (hv : 1 ≤ v ∧ v ≤ 50) (hle : S 67 34 + v ≤ 2000) (hk : KS n S (10) (v) (0) (0)) : zCt l Z mX8_tick 7 1 6 [.ref 0, .int v] (zA4 μ σ π g) (fun r μ' => r = some (.int (nI (doF (kpS S n (10) (v) (0) (0)) n).2)) ∧ zKp (n + 1) (doF (kpS S n (10) (v) (0) (0)) n).1 μ σ π g μ') := by
  refine zCt_of hZ mpX8_tick (Nat.le_of_ble_eq_true rfl) (L := [some (.ref 0), some (.int v)]) rfl (fun τ hY => ?_)
  have hT := hY.1
  have hM := hC.m
  have hB := hM.1.tb
  refine J_iload_n (i := 1) hT dX8_tick_0 rfl rfl ?_
  refine J_iconst (v := 1) hT dX8_tick_1 rfl ?_
  refine J_bipush (v := 50) hT dX8_tick_2 rfl ?_
  refine R_callS0 hY dX8_tick_4 mfX8_checkNumber mtX8_checkNumber kX8_119 (c_X8_checkNumber hZ hv.1 hv.2) rfl (by decide) rfl rfl (Nat.le_of_ble_eq_true rfl) (Nat.zero_le _) (Nat.zero_le _) ?_
  refine J_aload_n (i := 0) hT dX8_tick_7 rfl rfl ?_
  refine R_getP hT fX8_28 rfl dX8_tick_8 hC.k0 hC.p2 ?_
  refine R_getI hT fX8_158 rfl dX8_tick_11 hB.k ?_
  refine J_topil (hM.1.w) ?_
  refine J_iload_n (i := 1) hT dX8_tick_14 rfl rfl ?_
  refine J_iadd hT dX8_tick_15 ?_
  refine J_sipush (v := 2000) hT dX8_tick_16 rfl ?_
  refine J_icmp_le (tgt := 32) hT dX8_tick_19 (by decide) (fun _ => ?_) (fun q => absurd (hle) q)
  refine J_aload_n (i := 0) hT dX8_tick_32 rfl rfl ?_
  refine J_bipush (v := 10) hT dX8_tick_33 rfl ?_
  refine J_iload_n (i := 1) hT dX8_tick_35 rfl rfl ?_
  refine J_iconst (v := 0) hT dX8_tick_36 rfl ?_
  refine J_iconst (v := 0) hT dX8_tick_37 rfl ?_
  refine J_null hT dX8_tick_38 ?_
  refine J_callV (ci := 8) hY dX8_tick_39 mfX8_keep miX8_keep msX8_keep kX8_115 ⟨by decide, rfl⟩ hC.k0 (c_X8_keep hZ hO hC hn (by decide) hk.1 hk.2.1 hk.2.2.1 hk.2.2.2.1 hk.2.2.2.2.1 hk.2.2.2.2.2) rfl (by decide) rfl rfl (Nat.le_of_ble_eq_true rfl) (by decide) (by decide) (fun r1 μ1 hq1 => ?_)
  obtain ⟨rfl, hq2⟩ := hq1
  show zJ _ _ _ _ (.int _ :: _) _ _ _
  exact J_iret hT dX8_tick_42 rfl rfl (⟨rfl, hq2⟩) (by decide) (by decide)

set_option maxRecDepth 100000 in
set_option maxHeartbeats 4000000 in
theorem x_X8_tick_1 {l : Launch} {Z : zZ} (hZ : zSt l Z) {μ : zMem} {σ : zS2} {π : zP2} {g : zG2} {n : Nat} {S : zS2} (hC : CW n S μ σ π) (hX : zXs Z) {v : Int32} (hv : ¬ (1 ≤ v ∧ v ≤ 50)) : zCtX l Z mX8_tick 7 1 6 [.ref 0, .int v] (zA4 μ σ π g) "java/lang/IllegalArgumentException" (fun μ' => μ' = zA4 μ σ π g) := by
  refine zCtX_of hZ mpX8_tick (Nat.le_of_ble_eq_true rfl) (L := [some (.ref 0), some (.int v)]) rfl (fun τ hYX => ?_)
  have hY := hYX.1
  have hT := hY.1
  have hM := hC.m
  have hB := hM.1.tb
  refine J_iload_n (i := 1) hT dX8_tick_0 rfl rfl ?_
  refine J_iconst (v := 1) hT dX8_tick_1 rfl ?_
  refine J_bipush (v := 50) hT dX8_tick_2 rfl ?_
  exact J_callSX hYX dX8_tick_4 mfX8_checkNumber mtX8_checkNumber (Or.inl mlX8_119) (x_X8_checkNumber hZ hX hv) rfl (by decide) rfl rfl (Nat.le_of_ble_eq_true rfl) (by first | exact Nat.le_refl _ | decide | omega) (by first | exact Nat.le_refl _ | decide | omega) mlX8_119

set_option maxRecDepth 100000 in
set_option maxHeartbeats 4000000 in
theorem x_X8_tick_2 {l : Launch} {Z : zZ} (hZ : zSt l Z) {μ : zMem} {σ : zS2} {π : zP2} {g : zG2} {n : Nat} {S : zS2} (hC : CW n S μ σ π) (hX : zXs Z) {v : Int32} (hv : 1 ≤ v ∧ v ≤ 50) (hle : ¬ (S 67 34 + v ≤ 2000)) : zCtX l Z mX8_tick 7 1 6 [.ref 0, .int v] (zA4 μ σ π g) "java/lang/IllegalStateException" (fun μ' => μ' = zA4 μ σ π g) := by
  refine zCtX_of hZ mpX8_tick (Nat.le_of_ble_eq_true rfl) (L := [some (.ref 0), some (.int v)]) rfl (fun τ hYX => ?_)
  have hY := hYX.1
  have hT := hY.1
  have hM := hC.m
  have hB := hM.1.tb
  refine J_iload_n (i := 1) hT dX8_tick_0 rfl rfl ?_
  refine J_iconst (v := 1) hT dX8_tick_1 rfl ?_
  refine J_bipush (v := 50) hT dX8_tick_2 rfl ?_
  refine R_callS0 hY dX8_tick_4 mfX8_checkNumber mtX8_checkNumber kX8_119 (c_X8_checkNumber hZ hv.1 hv.2) rfl (by decide) rfl rfl (Nat.le_of_ble_eq_true rfl) (Nat.zero_le _) (Nat.zero_le _) ?_
  refine J_aload_n (i := 0) hT dX8_tick_7 rfl rfl ?_
  refine R_getP hT fX8_28 rfl dX8_tick_8 hC.k0 hC.p2 ?_
  refine R_getI hT fX8_158 rfl dX8_tick_11 hB.k ?_
  refine J_topil (hM.1.w) ?_
  refine J_iload_n (i := 1) hT dX8_tick_14 rfl rfl ?_
  refine J_iadd hT dX8_tick_15 ?_
  refine J_sipush (v := 2000) hT dX8_tick_16 rfl ?_
  refine J_icmp_le (tgt := 32) hT dX8_tick_19 (by decide) (fun q => absurd q (hle)) (fun _ => ?_)
  exact J_throw_ise hYX hX rfl (tx := "behind the last tick") (by decide) dX8_tick_22 dX8_tick_25 dX8_tick_26 dX8_tick_28 dX8_tick_31 rfl (by decide) (rfl) (by first | exact Nat.le_refl _ | decide | omega) (by first | exact Nat.le_refl _ | decide | omega)

set_option maxRecDepth 100000 in
set_option maxHeartbeats 4000000 in
theorem x_X8_tick_3 {l : Launch} {Z : zZ} (hZ : zSt l Z) {μ : zMem} {σ : zS2} {π : zP2} {g : zG2} {n : Nat} {S : zS2} (hC : CW n S μ σ π) (hX : zXs Z) {v : Int32} (hv : 1 ≤ v ∧ v ≤ 50) (hle : S 67 34 + v ≤ 2000) (hn40 : n ≤ 40) (hn : ¬ n < 40) : zCtX l Z mX8_tick 7 1 6 [.ref 0, .int v] (zA4 μ σ π g) "java/lang/IllegalStateException" (fun μ' => μ' = zA4 μ σ π g) := by
  refine zCtX_of hZ mpX8_tick (Nat.le_of_ble_eq_true rfl) (L := [some (.ref 0), some (.int v)]) rfl (fun τ hYX => ?_)
  have hY := hYX.1
  have hT := hY.1
  have hM := hC.m
  have hB := hM.1.tb
  refine J_iload_n (i := 1) hT dX8_tick_0 rfl rfl ?_
  refine J_iconst (v := 1) hT dX8_tick_1 rfl ?_
  refine J_bipush (v := 50) hT dX8_tick_2 rfl ?_
  refine R_callS0 hY dX8_tick_4 mfX8_checkNumber mtX8_checkNumber kX8_119 (c_X8_checkNumber hZ hv.1 hv.2) rfl (by decide) rfl rfl (Nat.le_of_ble_eq_true rfl) (Nat.zero_le _) (Nat.zero_le _) ?_
  refine J_aload_n (i := 0) hT dX8_tick_7 rfl rfl ?_
  refine R_getP hT fX8_28 rfl dX8_tick_8 hC.k0 hC.p2 ?_
  refine R_getI hT fX8_158 rfl dX8_tick_11 hB.k ?_
  refine J_topil (hM.1.w) ?_
  refine J_iload_n (i := 1) hT dX8_tick_14 rfl rfl ?_
  refine J_iadd hT dX8_tick_15 ?_
  refine J_sipush (v := 2000) hT dX8_tick_16 rfl ?_
  refine J_icmp_le (tgt := 32) hT dX8_tick_19 (by decide) (fun _ => ?_) (fun q => absurd (hle) q)
  refine J_aload_n (i := 0) hT dX8_tick_32 rfl rfl ?_
  refine J_bipush (v := 10) hT dX8_tick_33 rfl ?_
  refine J_iload_n (i := 1) hT dX8_tick_35 rfl rfl ?_
  refine J_iconst (v := 0) hT dX8_tick_36 rfl ?_
  refine J_iconst (v := 0) hT dX8_tick_37 rfl ?_
  refine J_null hT dX8_tick_38 ?_
  exact J_callVX (ci := 8) hYX dX8_tick_39 mfX8_keep miX8_keep msX8_keep ⟨by decide, rfl⟩ hC.k0 (x_X8_keep hZ hC hX hn40 hn) rfl (Nat.le_of_ble_eq_true rfl) rfl rfl (by decide) (by decide) (by decide) mlX8_115


