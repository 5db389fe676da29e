section ZCT
variable {l : Launch} {Z : zZ} {τ : zT} {M : zM} {kk mc ms : Nat} {F : State → Prop} {pc : Nat} {L : List (Option Value)} {st : List Value} {c k : Nat} {μ : zMem} {σ : zS2} {π : zP2} {g : zG2}
theorem C_putI (hT : zCx τ M kk mc ms) {a ci kf idx : Nat} {v : Int32} (hf : zFd M.1.cls idx ci kf) (hfin : (zTX ci kf).2.2.2 = false ∨ (M.1.name = "<init>" ∧ zRX ci = M.1.cls ∧ Cond.fieldLink M.1.cls idx (zRX ci) (zTX ci kf).2.1 (zTX ci kf).2.2.1 ∈ ztb)) (hr : zfty ci kf = .int) (hd : decode M.2.1 pc = .ok (.putfield idx, 3)) (hk : zK μ a = ci + 8)
    (h : zJ τ F (pc + 3) L st (zA4 μ (zu σ a kf v) π g) c k) : zJ τ F pc L (.int v :: .ref a :: st) (zA4 μ σ π g) c k := J_putI hT hf hfin hr hd hk h
theorem C_putZ (hT : zCx τ M kk mc ms) {a ci kf idx : Nat} {v : Int32} (hf : zFd M.1.cls idx ci kf) (hfin : (zTX ci kf).2.2.2 = false ∨ (M.1.name = "<init>" ∧ zRX ci = M.1.cls ∧ Cond.fieldLink M.1.cls idx (zRX ci) (zTX ci kf).2.1 (zTX ci kf).2.2.1 ∈ ztb)) (hr : zfty ci kf = .boolean) (hz : v = 0 ∨ v = 1) (hd : decode M.2.1 pc = .ok (.putfield idx, 3)) (hk : zK μ a = ci + 8)
    (h : zJ τ F (pc + 3) L st (zA4 μ (zu σ a kf v) π g) c k) : zJ τ F pc L (.int v :: .ref a :: st) (zA4 μ σ π g) c k := J_putZ hT hf hfin hr hz hd hk h
theorem C_putP (hT : zCx τ M kk mc ms) {a ci kf idx r : Nat} (hf : zFd M.1.cls idx ci kf) (hfin : (zTX ci kf).2.2.2 = false ∨ (M.1.name = "<init>" ∧ zRX ci = M.1.cls ∧ Cond.fieldLink M.1.cls idx (zRX ci) (zTX ci kf).2.1 (zTX ci kf).2.2.1 ∈ ztb)) (hr : zrt (zfty ci kf) = true) (hd : decode M.2.1 pc = .ok (.putfield idx, 3)) (hk : zK μ a = ci + 8)
    (h : zJ τ F (pc + 3) L st (zA4 μ σ (zup π a kf (some r)) g) c k) : zJ τ F pc L (.ref r :: .ref a :: st) (zA4 μ σ π g) c k := J_putP hT hf hfin hr hd hk h
theorem C_putN (hT : zCx τ M kk mc ms) {a ci kf idx : Nat} (hf : zFd M.1.cls idx ci kf) (hfin : (zTX ci kf).2.2.2 = false ∨ (M.1.name = "<init>" ∧ zRX ci = M.1.cls ∧ Cond.fieldLink M.1.cls idx (zRX ci) (zTX ci kf).2.1 (zTX ci kf).2.2.1 ∈ ztb)) (hr : zrt (zfty ci kf) = true) (hd : decode M.2.1 pc = .ok (.putfield idx, 3)) (hk : zK μ a = ci + 8)
    (h : zJ τ F (pc + 3) L st (zA4 μ σ (zup π a kf none) g) c k) : zJ τ F pc L (.null :: .ref a :: st) (zA4 μ σ π g) c k := J_putN hT hf hfin hr hd hk h
/-- a new cell, as numbers -/
def nσ (μ : zMem) (σ : zS2) : zS2 := fun b j => if b = zN μ then 0 else σ b j
def nπ (μ : zMem) (π : zP2) : zP2 := fun b j => if b = zN μ then none else π b j
def ng2 (μ : zMem) (g : zG2) : zG2 := fun b j => if b = zN μ then 0 else g b j
theorem zal_A4 (μ : zMem) (σ : zS2) (π : zP2) (g : zG2) (k n : Nat) : zal (zA4 μ σ π g) k n = zA4 (zal μ k n) (nσ μ σ) (nπ μ π) (ng2 μ g) := rfl
theorem zN_A4 (μ : zMem) (σ : zS2) (π : zP2) (g : zG2) : zN (zA4 μ σ π g) = zN μ := rfl
theorem zgr_al (μ : zMem) (k n : Nat) : zgr μ (zal μ k n) := ⟨Nat.le_succ _, fun b hb => ⟨by rw [zK_al, if_neg (by omega)], by rw [zL_al, if_neg (by omega)]⟩⟩
end ZCT
set_option maxRecDepth 20000 in
theorem wX7_9 : Cond.fieldLink RX7 9 RX7 "letters" "[C" ∈ ztb := ztb_in (zc1 (List.mem_of_getElem? (i := 38) rfl)) rfl
set_option maxRecDepth 20000 in
theorem wX7_15 : Cond.fieldLink RX7 15 RX7 "length" "I" ∈ ztb := ztb_in (zc1 (List.mem_of_getElem? (i := 39) rfl)) rfl
set_option maxRecDepth 20000 in
theorem wX2_29 : Cond.fieldLink RX2 29 RX2 "text" "LDaemonsheet$Text;" ∈ ztb := ztb_in (zc1 (List.mem_of_getElem? (i := 54) rfl)) rfl
set_option maxRecDepth 20000 in
theorem wX2_9 : Cond.fieldLink RX2 9 RX2 "code" "[I" ∈ ztb := ztb_in (zc1 (List.mem_of_getElem? (i := 55) rfl)) rfl
set_option maxRecDepth 20000 in
theorem wX2_15 : Cond.fieldLink RX2 15 RX2 "size" "I" ∈ ztb := ztb_in (zc1 (List.mem_of_getElem? (i := 56) rfl)) rfl
set_option maxRecDepth 20000 in
theorem wX2_19 : Cond.fieldLink RX2 19 RX2 "reads" "I" ∈ ztb := ztb_in (zc1 (List.mem_of_getElem? (i := 57) rfl)) rfl
set_option maxRecDepth 20000 in
theorem wX2_22 : Cond.fieldLink RX2 22 RX2 "place" "I" ∈ ztb := ztb_in (zc1 (List.mem_of_getElem? (i := 58) rfl)) rfl
set_option maxRecDepth 20000 in
theorem wX2_25 : Cond.fieldLink RX2 25 RX2 "stuck" "Z" ∈ ztb := ztb_in (zc1 (List.mem_of_getElem? (i := 59) rfl)) rfl
set_option maxRecDepth 20000 in
theorem wX1_7 : Cond.fieldLink RX1 7 RX1 "code" "[I" ∈ ztb := ztb_in (zc1 (List.mem_of_getElem? (i := 86) rfl)) rfl
set_option maxRecDepth 20000 in
theorem wX1_13 : Cond.fieldLink RX1 13 RX1 "reads" "I" ∈ ztb := ztb_in (zc1 (List.mem_of_getElem? (i := 88) rfl)) rfl
set_option maxRecDepth 20000 in
theorem wX0_20 : Cond.fieldLink RX0 20 RX0 "number" "I" ∈ ztb := ztb_in (zc1 (List.mem_of_getElem? (i := 107) rfl)) rfl
set_option maxRecDepth 20000 in
theorem wX0_23 : Cond.fieldLink RX0 23 RX0 "formula" "LDaemonsheet$Formula;" ∈ ztb := ztb_in (zc1 (List.mem_of_getElem? (i := 109) rfl)) rfl
set_option maxRecDepth 20000 in
theorem wX0_7 : Cond.fieldLink RX0 7 RX0 "value" "I" ∈ ztb := ztb_in (zc1 (List.mem_of_getElem? (i := 112) rfl)) rfl
set_option maxRecDepth 20000 in
theorem wX0_13 : Cond.fieldLink RX0 13 RX0 "depth" "I" ∈ ztb := ztb_in (zc1 (List.mem_of_getElem? (i := 115) rfl)) rfl
set_option maxRecDepth 20000 in
theorem wX0_16 : Cond.fieldLink RX0 16 RX0 "held" "Z" ∈ ztb := ztb_in (zc1 (List.mem_of_getElem? (i := 118) rfl)) rfl
set_option maxRecDepth 20000 in
theorem wX3_9 : Cond.fieldLink RX3 9 RX3 "value" "I" ∈ ztb := ztb_in (zc1 (List.mem_of_getElem? (i := 137) rfl)) rfl
set_option maxRecDepth 20000 in
theorem wX3_15 : Cond.fieldLink RX3 15 RX3 "tick" "I" ∈ ztb := ztb_in (zc1 (List.mem_of_getElem? (i := 139) rfl)) rfl
set_option maxRecDepth 20000 in
theorem wX4_51 : Cond.fieldLink RX4 51 RX4 "number" "I" ∈ ztb := ztb_in (zc1 (List.mem_of_getElem? (i := 151) rfl)) rfl
set_option maxRecDepth 20000 in
theorem wX4_9 : Cond.fieldLink RX4 9 RX4 "state" "I" ∈ ztb := ztb_in (zc1 (List.mem_of_getElem? (i := 153) rfl)) rfl
set_option maxRecDepth 20000 in
theorem wX4_15 : Cond.fieldLink RX4 15 RX4 "control" "I" ∈ ztb := ztb_in (zc1 (List.mem_of_getElem? (i := 156) rfl)) rfl
set_option maxRecDepth 20000 in
theorem wX4_18 : Cond.fieldLink RX4 18 RX4 "limit" "I" ∈ ztb := ztb_in (zc1 (List.mem_of_getElem? (i := 158) rfl)) rfl
set_option maxRecDepth 20000 in
theorem wX4_21 : Cond.fieldLink RX4 21 RX4 "needs" "I" ∈ ztb := ztb_in (zc1 (List.mem_of_getElem? (i := 160) rfl)) rfl
set_option maxRecDepth 20000 in
theorem wX4_24 : Cond.fieldLink RX4 24 RX4 "demand" "I" ∈ ztb := ztb_in (zc1 (List.mem_of_getElem? (i := 162) rfl)) rfl
set_option maxRecDepth 20000 in
theorem wX4_27 : Cond.fieldLink RX4 27 RX4 "delay" "I" ∈ ztb := ztb_in (zc1 (List.mem_of_getElem? (i := 164) rfl)) rfl
set_option maxRecDepth 20000 in
theorem wX4_30 : Cond.fieldLink RX4 30 RX4 "lie" "I" ∈ ztb := ztb_in (zc1 (List.mem_of_getElem? (i := 166) rfl)) rfl
set_option maxRecDepth 20000 in
theorem wX4_33 : Cond.fieldLink RX4 33 RX4 "load" "I" ∈ ztb := ztb_in (zc1 (List.mem_of_getElem? (i := 168) rfl)) rfl
set_option maxRecDepth 20000 in
theorem wX4_36 : Cond.fieldLink RX4 36 RX4 "told" "I" ∈ ztb := ztb_in (zc1 (List.mem_of_getElem? (i := 171) rfl)) rfl
set_option maxRecDepth 20000 in
theorem wX4_39 : Cond.fieldLink RX4 39 RX4 "starts" "I" ∈ ztb := ztb_in (zc1 (List.mem_of_getElem? (i := 174) rfl)) rfl
set_option maxRecDepth 20000 in
theorem wX4_42 : Cond.fieldLink RX4 42 RX4 "startTick" "I" ∈ ztb := ztb_in (zc1 (List.mem_of_getElem? (i := 176) rfl)) rfl
set_option maxRecDepth 20000 in
theorem wX4_45 : Cond.fieldLink RX4 45 RX4 "startDelay" "I" ∈ ztb := ztb_in (zc1 (List.mem_of_getElem? (i := 177) rfl)) rfl
set_option maxRecDepth 20000 in
theorem wX4_48 : Cond.fieldLink RX4 48 RX4 "changedIn" "I" ∈ ztb := ztb_in (zc1 (List.mem_of_getElem? (i := 178) rfl)) rfl
set_option maxRecDepth 20000 in
theorem wX6_14 : Cond.fieldLink RX6 14 RX6 "zero" "LDaemonsheet$Formula;" ∈ ztb := ztb_in (zc1 (List.mem_of_getElem? (i := 209) rfl)) rfl
set_option maxRecDepth 20000 in
theorem wX6_22 : Cond.fieldLink RX6 22 RX6 "cells" "[LDaemonsheet$Cell;" ∈ ztb := ztb_in (zc1 (List.mem_of_getElem? (i := 210) rfl)) rfl
set_option maxRecDepth 20000 in
theorem wX6_26 : Cond.fieldLink RX6 26 RX6 "order" "[LDaemonsheet$Cell;" ∈ ztb := ztb_in (zc1 (List.mem_of_getElem? (i := 212) rfl)) rfl
set_option maxRecDepth 20000 in
theorem wX6_31 : Cond.fieldLink RX6 31 RX6 "readings" "[LDaemonsheet$Reading;" ∈ ztb := ztb_in (zc1 (List.mem_of_getElem? (i := 213) rfl)) rfl
set_option maxRecDepth 20000 in
theorem wX6_37 : Cond.fieldLink RX6 37 RX6 "services" "[LDaemonsheet$Service;" ∈ ztb := ztb_in (zc1 (List.mem_of_getElem? (i := 214) rfl)) rfl
set_option maxRecDepth 20000 in
theorem wX6_41 : Cond.fieldLink RX6 41 RX6 "row" "[I" ∈ ztb := ztb_in (zc1 (List.mem_of_getElem? (i := 216) rfl)) rfl
set_option maxRecDepth 20000 in
theorem wX6_45 : Cond.fieldLink RX6 45 RX6 "dirty" "I" ∈ ztb := ztb_in (zc1 (List.mem_of_getElem? (i := 217) rfl)) rfl
set_option maxRecDepth 20000 in
theorem wX6_49 : Cond.fieldLink RX6 49 RX6 "now" "I" ∈ ztb := ztb_in (zc1 (List.mem_of_getElem? (i := 218) rfl)) rfl
set_option maxRecDepth 20000 in
theorem wX6_52 : Cond.fieldLink RX6 52 RX6 "work" "I" ∈ ztb := ztb_in (zc1 (List.mem_of_getElem? (i := 220) rfl)) rfl
set_option maxRecDepth 20000 in
theorem wX5_7 : Cond.fieldLink RX5 7 RX5 "kind" "I" ∈ ztb := ztb_in (zc2 (List.mem_of_getElem? (i := 8) rfl)) rfl
set_option maxRecDepth 20000 in
theorem wX5_13 : Cond.fieldLink RX5 13 RX5 "first" "I" ∈ ztb := ztb_in (zc2 (List.mem_of_getElem? (i := 11) rfl)) rfl
set_option maxRecDepth 20000 in
theorem wX5_16 : Cond.fieldLink RX5 16 RX5 "second" "I" ∈ ztb := ztb_in (zc2 (List.mem_of_getElem? (i := 13) rfl)) rfl
set_option maxRecDepth 20000 in
theorem wX5_19 : Cond.fieldLink RX5 19 RX5 "third" "I" ∈ ztb := ztb_in (zc2 (List.mem_of_getElem? (i := 15) rfl)) rfl
set_option maxRecDepth 20000 in
theorem wX5_22 : Cond.fieldLink RX5 22 RX5 "formula" "LDaemonsheet$Formula;" ∈ ztb := ztb_in (zc2 (List.mem_of_getElem? (i := 17) rfl)) rfl
set_option maxRecDepth 20000 in
theorem wX5_26 : Cond.fieldLink RX5 26 RX5 "tick" "I" ∈ ztb := ztb_in (zc2 (List.mem_of_getElem? (i := 19) rfl)) rfl
set_option maxRecDepth 20000 in
theorem wX8_12 : Cond.fieldLink RX8 12 RX8 "text" "LDaemonsheet$Text;" ∈ ztb := ztb_in (zc2 (List.mem_of_getElem? (i := 34) rfl)) rfl
set_option maxRecDepth 20000 in
theorem wX8_21 : Cond.fieldLink RX8 21 RX8 "parser" "LDaemonsheet$Parser;" ∈ ztb := ztb_in (zc2 (List.mem_of_getElem? (i := 35) rfl)) rfl
set_option maxRecDepth 20000 in
theorem wX8_28 : Cond.fieldLink RX8 28 RX8 "table" "LDaemonsheet$Table;" ∈ ztb := ztb_in (zc2 (List.mem_of_getElem? (i := 36) rfl)) rfl
set_option maxRecDepth 20000 in
theorem wX8_32 : Cond.fieldLink RX8 32 RX8 "spare" "LDaemonsheet$Table;" ∈ ztb := ztb_in (zc2 (List.mem_of_getElem? (i := 37) rfl)) rfl
set_option maxRecDepth 20000 in
theorem wX8_37 : Cond.fieldLink RX8 37 RX8 "kept" "[LDaemonsheet$Step;" ∈ ztb := ztb_in (zc2 (List.mem_of_getElem? (i := 38) rfl)) rfl
set_option maxRecDepth 20000 in
theorem wX8_41 : Cond.fieldLink RX8 41 RX8 "keptCount" "I" ∈ ztb := ztb_in (zc2 (List.mem_of_getElem? (i := 39) rfl)) rfl
set_option maxRecDepth 20000 in
theorem wX8_48 : Cond.fieldLink RX8 48 RX8 "oneTick" "LDaemonsheet$Step;" ∈ ztb := ztb_in (zc2 (List.mem_of_getElem? (i := 40) rfl)) rfl
set_option maxRecDepth 100000 in
set_option maxHeartbeats 4000000 in
theorem c_X5_init {l : Launch} {Z : zZ} (hZ : zSt l Z) {μ : zMem} {σ : zS2} {π : zP2} {g : zG2} {a f : Nat} (ha : zK μ a = 5 + 8) {v0 v1 v2 v3 v5 : Int32} : zCt l Z mX5_init 0 0 0 [.ref a, .int v0, .int v1, .int v2, .int v3, .ref f, .int v5] (zA4 μ σ π g) (fun r μ' => r = none ∧ μ' = zA4 μ (zu (zu (zu (zu (zu σ a 0 v0) a 1 v1) a 2 v2) a 3 v3) a 5 v5) (zup π a 4 (some f)) g) := by
  refine zCt_of hZ mpX5_init (Nat.le_of_ble_eq_true rfl) (L := [some (.ref a), some (.int v0), some (.int v1), some (.int v2), some (.int v3), some (.ref f), some (.int v5)]) rfl (fun τ hY => ?_)
  have hT := hY.1
  refine J_aload_n (i := 0) hT dX5_init_0 rfl rfl ?_
  refine J_objInit hT dX5_init_1 kX5_1 oi1 oi2 rfl (by decide) ?_
  refine J_aload_n (i := 0) hT dX5_init_4 rfl rfl ?_
  refine J_iload_n (i := 1) hT dX5_init_5 rfl rfl ?_
  refine C_putI hT fX5_7 (Or.inr ⟨rfl, rfl, wX5_7⟩) rfl dX5_init_6 ha ?_
  refine J_aload_n (i := 0) hT dX5_init_9 rfl rfl ?_
  refine J_iload_n (i := 2) hT dX5_init_10 rfl rfl ?_
  refine C_putI hT fX5_13 (Or.inr ⟨rfl, rfl, wX5_13⟩) rfl dX5_init_11 ha ?_
  refine J_aload_n (i := 0) hT dX5_init_14 rfl rfl ?_
  refine J_iload_n (i := 3) hT dX5_init_15 rfl rfl ?_
  refine C_putI hT fX5_16 (Or.inr ⟨rfl, rfl, wX5_16⟩) rfl dX5_init_16 ha ?_
  refine J_aload_n (i := 0) hT dX5_init_19 rfl rfl ?_
  refine J_iload (i := 4) hT dX5_init_20 rfl ?_
  refine C_putI hT fX5_19 (Or.inr ⟨rfl, rfl, wX5_19⟩) rfl dX5_init_22 ha ?_
  refine J_aload_n (i := 0) hT dX5_init_25 rfl rfl ?_
  refine J_aload (i := 5) hT dX5_init_26 rfl ?_
  refine C_putP hT fX5_22 (Or.inr ⟨rfl, rfl, wX5_22⟩) rfl dX5_init_28 ha ?_
  refine J_aload_n (i := 0) hT dX5_init_31 rfl rfl ?_
  refine J_iload (i := 6) hT dX5_init_32 rfl ?_
  refine C_putI hT fX5_26 (Or.inr ⟨rfl, rfl, wX5_26⟩) rfl dX5_init_34 ha ?_
  exact J_vret hT dX5_init_37 rfl (⟨rfl, rfl⟩) (Nat.le_refl _) (Nat.le_refl _)

set_option maxRecDepth 100000 in
set_option maxHeartbeats 4000000 in
theorem c_X5_initN {l : Launch} {Z : zZ} (hZ : zSt l Z) {μ : zMem} {σ : zS2} {π : zP2} {g : zG2} {a f : Nat} (ha : zK μ a = 5 + 8) {v0 v1 v2 v3 v5 : Int32} : zCt l Z mX5_init 0 0 0 [.ref a, .int v0, .int v1, .int v2, .int v3, .null, .int v5] (zA4 μ σ π g) (fun r μ' => r = none ∧ μ' = zA4 μ (zu (zu (zu (zu (zu σ a 0 v0) a 1 v1) a 2 v2) a 3 v3) a 5 v5) (zup π a 4 none) g) := by
  refine zCt_of hZ mpX5_init (Nat.le_of_ble_eq_true rfl) (L := [some (.ref a), some (.int v0), some (.int v1), some (.int v2), some (.int v3), some (.null), some (.int v5)]) rfl (fun τ hY => ?_)
  have hT := hY.1
  refine J_aload_n (i := 0) hT dX5_init_0 rfl rfl ?_
  refine J_objInit hT dX5_init_1 kX5_1 oi1 oi2 rfl (by decide) ?_
  refine J_aload_n (i := 0) hT dX5_init_4 rfl rfl ?_
  refine J_iload_n (i := 1) hT dX5_init_5 rfl rfl ?_
  refine C_putI hT fX5_7 (Or.inr ⟨rfl, rfl, wX5_7⟩) rfl dX5_init_6 ha ?_
  refine J_aload_n (i := 0) hT dX5_init_9 rfl rfl ?_
  refine J_iload_n (i := 2) hT dX5_init_10 rfl rfl ?_
  refine C_putI hT fX5_13 (Or.inr ⟨rfl, rfl, wX5_13⟩) rfl dX5_init_11 ha ?_
  refine J_aload_n (i := 0) hT dX5_init_14 rfl rfl ?_
  refine J_iload_n (i := 3) hT dX5_init_15 rfl rfl ?_
  refine C_putI hT fX5_16 (Or.inr ⟨rfl, rfl, wX5_16⟩) rfl dX5_init_16 ha ?_
  refine J_aload_n (i := 0) hT dX5_init_19 rfl rfl ?_
  refine J_iload (i := 4) hT dX5_init_20 rfl ?_
  refine C_putI hT fX5_19 (Or.inr ⟨rfl, rfl, wX5_19⟩) rfl dX5_init_22 ha ?_
  refine J_aload_n (i := 0) hT dX5_init_25 rfl rfl ?_
  refine J_aloadN (i := 5) hT dX5_init_26 rfl ?_
  refine C_putN hT fX5_22 (Or.inr ⟨rfl, rfl, wX5_22⟩) rfl dX5_init_28 ha ?_
  refine J_aload_n (i := 0) hT dX5_init_31 rfl rfl ?_
  refine J_iload (i := 6) hT dX5_init_32 rfl ?_
  refine C_putI hT fX5_26 (Or.inr ⟨rfl, rfl, wX5_26⟩) rfl dX5_init_34 ha ?_
  exact J_vret hT dX5_init_37 rfl (⟨rfl, rfl⟩) (Nat.le_refl _) (Nat.le_refl _)


