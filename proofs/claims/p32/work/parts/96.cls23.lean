set_option maxRecDepth 20000 in
theorem mlX8_165 : Cond.methodLink RX8 165 mX8_tellAnew.1 ∈ ztb := ztb_in (zc2 (List.mem_of_getElem? (i := 141) rfl)) rfl
set_option maxRecDepth 20000 in
theorem mlX8_91 : Cond.methodLink RX8 91 mX8_checkCell.1 ∈ ztb := ztb_in (zc3 (List.mem_of_getElem? (i := 49) rfl)) rfl
set_option maxRecDepth 20000 in
theorem mlX8_135 : Cond.methodLink RX8 135 mX8_checkPlace.1 ∈ ztb := ztb_in (zc3 (List.mem_of_getElem? (i := 52) rfl)) rfl
set_option maxRecDepth 20000 in
theorem mlX8_139 : Cond.methodLink RX8 139 mX8_checkService.1 ∈ ztb := ztb_in (zc3 (List.mem_of_getElem? (i := 86) rfl)) rfl
set_option maxRecDepth 20000 in
theorem mlX8_211 : Cond.methodLink RX8 211 mX8_tellReadingsOfTick.1 ∈ ztb := ztb_in (zc3 (List.mem_of_getElem? (i := 100) rfl)) rfl
set_option maxRecDepth 20000 in
theorem mlX8_52 : Cond.methodLink RX8 52 mX8_isFigure.1 ∈ ztb := ztb_in (zc3 (List.mem_of_getElem? (i := 125) rfl)) rfl
set_option maxRecDepth 20000 in
theorem mlX8_109 : Cond.methodLink RX8 109 mX8_has.1 ∈ ztb := ztb_in (zc4 (List.mem_of_getElem? (i := 86) rfl)) rfl
set_option maxRecDepth 20000 in
theorem mlX8_115 : Cond.methodLink RX8 115 mX8_keep.1 ∈ ztb := ztb_in (zc4 (List.mem_of_getElem? (i := 88) rfl)) rfl
set_option maxRecDepth 20000 in
theorem mlX8_119 : Cond.methodLink RX8 119 mX8_checkNumber.1 ∈ ztb := ztb_in (zc4 (List.mem_of_getElem? (i := 192) rfl)) rfl
set_option maxRecDepth 20000 in
theorem mlX8_142 : Cond.methodLink RX8 142 mX8_checkCellOrNone.1 ∈ ztb := ztb_in (zc4 (List.mem_of_getElem? (i := 218) rfl)) rfl
/-- the Daemonsheet's parts -/
def cwH (μ : zMem) (π : zP2) : Prop := 70 ≤ zN μ ∧ zK μ 0 = 8 + 8 ∧ π 0 0 = some 1 ∧ π 0 1 = some 3 ∧ π 0 2 = some 5 ∧ π 0 3 = some 35 ∧ (π 0 4 = some 65 ∧ zK μ 65 = 7 ∧ zL μ 65 = 40) ∧ (π 0 6 = some 66 ∧ zK μ 66 = 5 + 8) ∧ (zK μ 1 = 7 + 8 ∧ π 1 0 = some 2 ∧ zK μ 2 = 2 ∧ zL μ 2 = 30) ∧ zK μ 3 = 2 + 8 ∧ π 3 0 = some 1 ∧ π 3 1 = some 4 ∧ zK μ 4 = 0 ∧ zL μ 4 = 30
def CW (n : Nat) (S : zS2) (μ : zMem) (σ : zS2) (π : zP2) : Prop := cwH μ π ∧ (zTb 35 μ π ∧ zNm 35 σ ∧ zZf 35 μ σ π) ∧ zZf 5 μ σ π ∧ mo 5 μ σ π S ∧ σ 0 5 = nI n ∧ (∀ k, k < n → ∃ sp, π 65 k = some sp ∧ zSp μ σ π sp S k) ∧ (σ 66 0 = 10 ∧ σ 66 1 = 1) ∧ σ 1 1 = S 67 1 ∧ ∀ i, i < 30 → σ 2 i = S 68 i
section CWP
variable {n : Nat} {S : zS2} {μ : zMem} {σ : zS2} {π : zP2}
theorem CW.nn (h : CW n S μ σ π) : 70 ≤ zN μ := h.1.1
theorem CW.k0 (h : CW n S μ σ π) : zK μ 0 = 8 + 8 := h.1.2.1
theorem CW.p0 (h : CW n S μ σ π) : π 0 0 = some 1 := h.1.2.2.1
theorem CW.p1 (h : CW n S μ σ π) : π 0 1 = some 3 := h.1.2.2.2.1
theorem CW.p2 (h : CW n S μ σ π) : π 0 2 = some 5 := h.1.2.2.2.2.1
theorem CW.p3 (h : CW n S μ σ π) : π 0 3 = some 35 := h.1.2.2.2.2.2.1
theorem CW.p4 (h : CW n S μ σ π) : π 0 4 = some 65 := h.1.2.2.2.2.2.2.1.1
theorem CW.k65 (h : CW n S μ σ π) : zK μ 65 = 7 := h.1.2.2.2.2.2.2.1.2.1
theorem CW.l65 (h : CW n S μ σ π) : zL μ 65 = 40 := h.1.2.2.2.2.2.2.1.2.2
theorem CW.p6 (h : CW n S μ σ π) : π 0 6 = some 66 := h.1.2.2.2.2.2.2.2.1.1
theorem CW.k66 (h : CW n S μ σ π) : zK μ 66 = 5 + 8 := h.1.2.2.2.2.2.2.2.1.2
theorem CW.k1 (h : CW n S μ σ π) : zK μ 1 = 7 + 8 := h.1.2.2.2.2.2.2.2.2.1.1
theorem CW.q1 (h : CW n S μ σ π) : π 1 0 = some 2 := h.1.2.2.2.2.2.2.2.2.1.2.1
theorem CW.k2 (h : CW n S μ σ π) : zK μ 2 = 2 := h.1.2.2.2.2.2.2.2.2.1.2.2.1
theorem CW.l2 (h : CW n S μ σ π) : zL μ 2 = 30 := h.1.2.2.2.2.2.2.2.2.1.2.2.2
theorem CW.k3 (h : CW n S μ σ π) : zK μ 3 = 2 + 8 := h.1.2.2.2.2.2.2.2.2.2.1
theorem CW.q30 (h : CW n S μ σ π) : π 3 0 = some 1 := h.1.2.2.2.2.2.2.2.2.2.2.1
theorem CW.q31 (h : CW n S μ σ π) : π 3 1 = some 4 := h.1.2.2.2.2.2.2.2.2.2.2.2.1
theorem CW.k4 (h : CW n S μ σ π) : zK μ 4 = 0 := h.1.2.2.2.2.2.2.2.2.2.2.2.2.1
theorem CW.l4 (h : CW n S μ σ π) : zL μ 4 = 30 := h.1.2.2.2.2.2.2.2.2.2.2.2.2.2
theorem CW.t35 (h : CW n S μ σ π) : zTb 35 μ π ∧ zNm 35 σ ∧ zZf 35 μ σ π := h.2.1
theorem CW.z5 (h : CW n S μ σ π) : zZf 5 μ σ π := h.2.2.1
theorem CW.m (h : CW n S μ σ π) : mo 5 μ σ π S := h.2.2.2.1
theorem CW.ct (h : CW n S μ σ π) : σ 0 5 = nI n := h.2.2.2.2.1
theorem CW.st (h : CW n S μ σ π) {k : Nat} (hk : k < n) : ∃ sp, π 65 k = some sp ∧ zSp μ σ π sp S k := h.2.2.2.2.2.1 k hk
theorem CW.one (h : CW n S μ σ π) : σ 66 0 = 10 ∧ σ 66 1 = 1 := h.2.2.2.2.2.2.1
theorem CW.tl (h : CW n S μ σ π) : σ 1 1 = S 67 1 := h.2.2.2.2.2.2.2.1
theorem CW.tx (h : CW n S μ σ π) {i : Nat} (hi : i < 30) : σ 2 i = S 68 i := h.2.2.2.2.2.2.2.2 i hi
end CWP
theorem ta5 : ta 5 := Or.inl rfl
theorem ta35 : ta 35 := Or.inr rfl
/-- a table changes, the rest of the world doesn't; new objects may be there -/
theorem CW.mv {n : Nat} {S S' : zS2} {μ μ' : zMem} {σ σ' : zS2} {π π' : zP2} (h : CW n S μ σ π) (hg : zgr μ μ') (hs : ∀ b, (b < 5 ∨ b = 65 ∨ b = 66 ∨ b = 6 ∨ b = 7 ∨ b = 36 ∨ b = 37 ∨ (70 ≤ b ∧ b < zN μ)) → ∀ j, σ' b j = σ b j) (hp : ∀ b, (b < 5 ∨ b = 65 ∨ b = 66 ∨ b = 6 ∨ b = 7 ∨ b = 36 ∨ b = 37 ∨ (70 ≤ b ∧ b < zN μ)) → ∀ j, π' b j = π b j)
    (h5 : mo 5 μ' σ' π' S') (h35 : zTb 35 μ' π' ∧ zNm 35 σ') (hS : ∀ b, b ∈ [98, 99, 100, 101, 102, 104] → ∀ k, k < n → S' b k = S b k) (hS3 : ∀ k, k < n → ∀ i, i < stN S k → S' 103 (30 * k + i) = S 103 (30 * k + i)) (hS1 : S' 67 1 = S 67 1) (hS8 : ∀ i, S' 68 i = S 68 i) : CW n S' μ' σ' π' := by
  have hn := h.nn
  have gk : ∀ b, b < 70 → zK μ' b = zK μ b ∧ zL μ' b = zL μ b := fun b hb => hg.2 b (by omega)
  refine ⟨⟨Nat.le_trans hn hg.1, ?_, ?_, ?_, ?_, ?_, ⟨?_, ?_, ?_⟩, ⟨?_, ?_⟩, ⟨?_, ?_, ?_, ?_⟩, ?_, ?_, ?_, ?_, ?_⟩, ⟨h35.1, h35.2, h.t35.2.2.mv (by omega) hg (fun b hb j => hs b (by omega) j) (fun b hb j => hp b (by omega) j)⟩, h.z5.mv (by omega) hg (fun b hb j => hs b (by omega) j) (fun b hb j => hp b (by omega) j), h5, ?_, fun k hk => ?_, ⟨?_, ?_⟩, ?_, fun i hi => ?_⟩
  · rw [(gk 0 (by omega)).1]; exact h.k0
  · rw [hp 0 (by omega)]; exact h.p0
  · rw [hp 0 (by omega)]; exact h.p1
  · rw [hp 0 (by omega)]; exact h.p2
  · rw [hp 0 (by omega)]; exact h.p3
  · rw [hp 0 (by omega)]; exact h.p4
  · rw [(gk 65 (by omega)).1]; exact h.k65
  · rw [(gk 65 (by omega)).2]; exact h.l65
  · rw [hp 0 (by omega)]; exact h.p6
  · rw [(gk 66 (by omega)).1]; exact h.k66
  · rw [(gk 1 (by omega)).1]; exact h.k1
  · rw [hp 1 (by omega)]; exact h.q1
  · rw [(gk 2 (by omega)).1]; exact h.k2
  · rw [(gk 2 (by omega)).2]; exact h.l2
  · rw [(gk 3 (by omega)).1]; exact h.k3
  · rw [hp 3 (by omega)]; exact h.q30
  · rw [hp 3 (by omega)]; exact h.q31
  · rw [(gk 4 (by omega)).1]; exact h.k4
  · rw [(gk 4 (by omega)).2]; exact h.l4
  · rw [hs 0 (by omega)]; exact h.ct
  · obtain ⟨sp, e, hsp⟩ := h.st hk
    refine ⟨sp, by rw [hp 65 (by omega)]; exact e, hsp.mv hg (fun b hb hbn j => hs b ?_ j) (fun b hb hbn j => hp b ?_ j) (fun b hb => hS b hb k hk) (hS3 k hk)⟩
    · unfold Io Im at hb; omega
    · unfold Io Im at hb; omega
  · rw [hs 66 (by omega)]; exact h.one.1
  · rw [hs 66 (by omega)]; exact h.one.2
  · rw [hs 1 (by omega), hS1]; exact h.tl
  · rw [hs 2 (by omega), hS8]; exact h.tx hi
theorem CW.out5 {b N : Nat} (h : b < 5 ∨ b = 65 ∨ b = 66 ∨ b = 6 ∨ b = 7 ∨ b = 36 ∨ b = 37 ∨ (70 ≤ b ∧ b < N)) : (¬ zmu 5 b ∧ ∀ j, ¬ zmp 5 b j) ∧ (¬ zmu 35 b ∧ ∀ j, ¬ zmp 35 b j) := by
  unfold zmu zmp
  exact ⟨⟨by omega, fun j => by omega⟩, ⟨by omega, fun j => by omega⟩⟩
theorem CW.t5 {n : Nat} {S S' : zS2} {μ : zMem} {σ σ' : zS2} {π π' : zP2} (h : CW n S μ σ π) (hf : zfT 5 σ σ') (hp : zfP 5 π π') (h5 : mo 5 μ σ' π' S') (hk : zkf S S') : CW n S' μ σ' π' := by
  refine h.mv zgr.rf (fun b hb j => hf b j (CW.out5 hb).1.1) (fun b hb j => hp b j ((CW.out5 hb).1.2 j)) h5 ⟨h.t35.1.mv zgr.rf (fun b j h1 h2 _ => hp b j (by unfold zmp; omega)), ⟨fun i hi => ?_, fun i hi => ?_⟩⟩ (fun b hb k _ => ?_) (fun k _ i _ => hk _ _ (by unfold zkp; omega)) (hk _ _ (by unfold zkp; omega)) (fun i => hk _ _ (by unfold zkp; omega))
  · rw [hf _ _ (by unfold zmu; omega)]; exact h.t35.2.1.1 i hi
  · rw [hf _ _ (by unfold zmu; omega)]; exact h.t35.2.1.2 i hi
  · simp only [List.mem_cons, List.not_mem_nil, or_false] at hb
    exact hk _ _ (by unfold zkp; omega)
theorem CW.t35s {n : Nat} {S X : zS2} {μ : zMem} {σ σ' : zS2} {π π' : zP2} (h : CW n S μ σ π) (hf : zfT 35 σ σ') (hp : zfP 35 π π') (h35 : mo 35 μ σ' π' X) : CW n S μ σ' π' := by
  refine h.mv zgr.rf (fun b hb j => hf b j (CW.out5 hb).2.1) (fun b hb j => hp b j ((CW.out5 hb).2.2 j)) (h.m.oth ta35 ta5 (by decide) hf hp) ⟨h.t35.1.fp hp, h35.1.2.1⟩ (fun b hb k _ => rfl) (fun k _ i _ => rfl) rfl (fun i => rfl)

set_option maxRecDepth 100000 in
set_option maxHeartbeats 4000000 in
theorem c_X8_checkPlace {l : Launch} {Z : zZ} (hZ : zSt l Z) {a b : Int32} (h0 : 0 ≤ a) (h1 : a < b) {μ : zMem} : zCt l Z mX8_checkPlace 0 0 0 [.int a, .int b] μ (fun r μ' => r = none ∧ μ' = μ) := by
  refine zCt_of hZ mpX8_checkPlace (Nat.le_of_ble_eq_true rfl) (L := [some (.int a), some (.int b)]) rfl (fun τ hY => ?_)
  have hT := hY.1
  refine J_iload_n (i := 0) hT dX8_checkPlace_0 rfl rfl ?_
  refine J_if_lt (tgt := 9) hT dX8_checkPlace_1 (by decide) (fun q => absurd q (Int32.not_lt.mpr h0)) (fun _ => ?_)
  refine J_iload_n (i := 0) hT dX8_checkPlace_4 rfl rfl ?_
  refine J_iload_n (i := 1) hT dX8_checkPlace_5 rfl rfl ?_
  refine J_icmp_lt (tgt := 19) hT dX8_checkPlace_6 (by decide) (fun _ => ?_) (fun q => absurd (h1) q)
  exact J_vret hT dX8_checkPlace_19 rfl (⟨rfl, rfl⟩) (Nat.le_refl _) (Nat.le_refl _)

set_option maxRecDepth 100000 in
set_option maxHeartbeats 4000000 in
theorem x_X8_checkPlace {l : Launch} {Z : zZ} (hZ : zSt l Z) (hX : zXs Z) {a b : Int32} (h : ¬ (0 ≤ a ∧ a < b)) {μ : zMem} : zCtX l Z mX8_checkPlace 0 1 6 [.int a, .int b] μ "java/lang/IndexOutOfBoundsException" (fun μ' => μ' = μ) := by
  refine zCtX_of hZ mpX8_checkPlace (Nat.le_of_ble_eq_true rfl) (L := [some (.int a), some (.int b)]) rfl (fun τ hYX => ?_)
  have hY := hYX.1
  have hT := hY.1
  refine J_iload_n (i := 0) hT dX8_checkPlace_0 rfl rfl ?_
  refine J_if_lt (tgt := 9) hT dX8_checkPlace_1 (by decide) (fun q1 => ?_) (fun q1 => ?_)
  · exact J_throw_iob hYX hX rfl (tx := "no such cell, reading or service") (by decide) dX8_checkPlace_9 dX8_checkPlace_12 dX8_checkPlace_13 dX8_checkPlace_15 dX8_checkPlace_18 rfl (by decide) (rfl) (by first | exact Nat.le_refl _ | decide | omega) (by first | exact Nat.le_refl _ | decide | omega)
  · refine J_iload_n (i := 0) hT dX8_checkPlace_4 rfl rfl ?_
    refine J_iload_n (i := 1) hT dX8_checkPlace_5 rfl rfl ?_
    refine J_icmp_lt (tgt := 19) hT dX8_checkPlace_6 (by decide) (fun q6 => ?_) (fun q6 => ?_)
    · exact absurd ⟨Int32.not_lt.mp q1, q6⟩ h
    · exact J_throw_iob hYX hX rfl (tx := "no such cell, reading or service") (by decide) dX8_checkPlace_9 dX8_checkPlace_12 dX8_checkPlace_13 dX8_checkPlace_15 dX8_checkPlace_18 rfl (by decide) (rfl) (by first | exact Nat.le_refl _ | decide | omega) (by first | exact Nat.le_refl _ | decide | omega)

set_option maxRecDepth 100000 in
set_option maxHeartbeats 4000000 in
theorem c_X8_checkCell {l : Launch} {Z : zZ} (hZ : zSt l Z) {c : Nat} (hc : c < 12) {μ : zMem} : zCt l Z mX8_checkCell 1 0 0 [.int (nI c)] μ (fun r μ' => r = none ∧ μ' = μ) := by
  refine zCt_of hZ mpX8_checkCell (Nat.le_of_ble_eq_true rfl) (L := [some (.int (nI c))]) rfl (fun τ hY => ?_)
  have hT := hY.1
  refine J_iload_n (i := 0) hT dX8_checkCell_0 rfl rfl ?_
  refine J_bipush (v := 12) hT dX8_checkCell_1 rfl ?_
  refine R_callS0 hY dX8_checkCell_3 mfX8_checkPlace mtX8_checkPlace kX8_135 (c_X8_checkPlace hZ (nI_le (a := 0) (b := c) (by omega) (by omega)) (nI_lt (a := c) (b := 12) hc (by decide))) rfl (by decide) rfl rfl (Nat.le_of_ble_eq_true rfl) (Nat.le_refl _) (Nat.le_refl _) ?_
  exact J_vret hT dX8_checkCell_6 rfl (⟨rfl, rfl⟩) (Nat.le_refl _) (Nat.le_refl _)

set_option maxRecDepth 100000 in
set_option maxHeartbeats 4000000 in
theorem x_X8_checkCell {l : Launch} {Z : zZ} (hZ : zSt l Z) (hX : zXs Z) {a : Int32} (h : cellB a = false) {μ : zMem} : zCtX l Z mX8_checkCell 1 1 6 [.int a] μ "java/lang/IndexOutOfBoundsException" (fun μ' => μ' = μ) := by
  refine zCtX_of hZ mpX8_checkCell (Nat.le_of_ble_eq_true rfl) (L := [some (.int a)]) rfl (fun τ hYX => ?_)
  have hY := hYX.1
  have hT := hY.1
  have h2 : ¬ (0 ≤ a ∧ a < 12) := by unfold cellB at h; intro q; simp [q.1, q.2] at h
  refine J_iload_n (i := 0) hT dX8_checkCell_0 rfl rfl ?_
  refine J_bipush (v := 12) hT dX8_checkCell_1 rfl ?_
  exact J_callSX hYX dX8_checkCell_3 mfX8_checkPlace mtX8_checkPlace (Or.inl mlX8_135) (x_X8_checkPlace hZ hX h2) rfl (by decide) rfl rfl (Nat.le_of_ble_eq_true rfl) (by first | exact Nat.le_refl _ | decide | omega) (by first | exact Nat.le_refl _ | decide | omega) mlX8_135

set_option maxRecDepth 100000 in
set_option maxHeartbeats 4000000 in
theorem c_X8_checkService {l : Launch} {Z : zZ} (hZ : zSt l Z) {c : Nat} (hc : c < 5) {μ : zMem} : zCt l Z mX8_checkService 1 0 0 [.int (nI c)] μ (fun r μ' => r = none ∧ μ' = μ) := by
  refine zCt_of hZ mpX8_checkService (Nat.le_of_ble_eq_true rfl) (L := [some (.int (nI c))]) rfl (fun τ hY => ?_)
  have hT := hY.1
  refine J_iload_n (i := 0) hT dX8_checkService_0 rfl rfl ?_
  refine J_iconst (v := 5) hT dX8_checkService_1 rfl ?_
  refine R_callS0 hY dX8_checkService_2 mfX8_checkPlace mtX8_checkPlace kX8_135 (c_X8_checkPlace hZ (nI_le (a := 0) (b := c) (by omega) (by omega)) (nI_lt (a := c) (b := 5) hc (by decide))) rfl (by decide) rfl rfl (Nat.le_of_ble_eq_true rfl) (Nat.le_refl _) (Nat.le_refl _) ?_
  exact J_vret hT dX8_checkService_5 rfl (⟨rfl, rfl⟩) (Nat.le_refl _) (Nat.le_refl _)

set_option maxRecDepth 100000 in
set_option maxHeartbeats 4000000 in
theorem x_X8_checkService {l : Launch} {Z : zZ} (hZ : zSt l Z) (hX : zXs Z) {a : Int32} (h : svcB a = false) {μ : zMem} : zCtX l Z mX8_checkService 1 1 6 [.int a] μ "java/lang/IndexOutOfBoundsException" (fun μ' => μ' = μ) := by
  refine zCtX_of hZ mpX8_checkService (Nat.le_of_ble_eq_true rfl) (L := [some (.int a)]) rfl (fun τ hYX => ?_)
  have hY := hYX.1
  have hT := hY.1
  have h2 : ¬ (0 ≤ a ∧ a < 5) := by unfold svcB at h; intro q; simp [q.1, q.2] at h
  refine J_iload_n (i := 0) hT dX8_checkService_0 rfl rfl ?_
  refine J_iconst (v := 5) hT dX8_checkService_1 rfl ?_
  exact J_callSX hYX dX8_checkService_2 mfX8_checkPlace mtX8_checkPlace (Or.inl mlX8_135) (x_X8_checkPlace hZ hX h2) rfl (by decide) rfl rfl (Nat.le_of_ble_eq_true rfl) (by first | exact Nat.le_refl _ | decide | omega) (by first | exact Nat.le_refl _ | decide | omega) mlX8_135

set_option maxRecDepth 100000 in
set_option maxHeartbeats 4000000 in
theorem c_X8_checkCellOrNone {l : Launch} {Z : zZ} (hZ : zSt l Z) {c : Nat} (hc : c < 12) {μ : zMem} : zCt l Z mX8_checkCellOrNone 2 0 0 [.int (nI c)] μ (fun r μ' => r = none ∧ μ' = μ) := by
  refine zCt_of hZ mpX8_checkCellOrNone (Nat.le_of_ble_eq_true rfl) (L := [some (.int (nI c))]) rfl (fun τ hY => ?_)
  have hT := hY.1
  refine J_iload_n (i := 0) hT dX8_checkCellOrNone_0 rfl rfl ?_
  refine J_iconst (v := -1) hT dX8_checkCellOrNone_1 rfl ?_
  refine J_icmp_eq (tgt := 9) hT dX8_checkCellOrNone_2 (by decide) (fun q => absurd q ((fun q => by have := nI_n0 hc; rw [q] at this; exact this (by decide)))) (fun _ => ?_)
  refine J_iload_n (i := 0) hT dX8_checkCellOrNone_5 rfl rfl ?_
  refine R_callS0 hY dX8_checkCellOrNone_6 mfX8_checkCell mtX8_checkCell kX8_91 (c_X8_checkCell hZ hc) rfl (by decide) rfl rfl (Nat.le_of_ble_eq_true rfl) (Nat.le_refl _) (Nat.le_refl _) ?_
  exact J_vret hT dX8_checkCellOrNone_9 rfl (⟨rfl, rfl⟩) (Nat.le_refl _) (Nat.le_refl _)

set_option maxRecDepth 100000 in
set_option maxHeartbeats 4000000 in
theorem c_X8_checkCellOrNoneN {l : Launch} {Z : zZ} (hZ : zSt l Z) {μ : zMem} : zCt l Z mX8_checkCellOrNone 2 0 0 [.int (-1)] μ (fun r μ' => r = none ∧ μ' = μ) := by
  refine zCt_of hZ mpX8_checkCellOrNone (Nat.le_of_ble_eq_true rfl) (L := [some (.int (-1))]) rfl (fun τ hY => ?_)
  have hT := hY.1
  refine J_iload_n (i := 0) hT dX8_checkCellOrNone_0 rfl rfl ?_
  refine J_iconst (v := -1) hT dX8_checkCellOrNone_1 rfl ?_
  refine J_icmp_eq (tgt := 9) hT dX8_checkCellOrNone_2 (by decide) (fun _ => ?_) (fun q => absurd (rfl) q)
  exact J_vret hT dX8_checkCellOrNone_9 rfl (⟨rfl, rfl⟩) (Nat.le_refl _) (Nat.le_refl _)

set_option maxRecDepth 100000 in
set_option maxHeartbeats 4000000 in
theorem x_X8_checkCellOrNone {l : Launch} {Z : zZ} (hZ : zSt l Z) (hX : zXs Z) {a : Int32} (h : cellB a = false) (hn : a ≠ -1) {μ : zMem} : zCtX l Z mX8_checkCellOrNone 2 1 6 [.int a] μ "java/lang/IndexOutOfBoundsException" (fun μ' => μ' = μ) := by
  refine zCtX_of hZ mpX8_checkCellOrNone (Nat.le_of_ble_eq_true rfl) (L := [some (.int a)]) rfl (fun τ hYX => ?_)
  have hY := hYX.1
  have hT := hY.1
  refine J_iload_n (i := 0) hT dX8_checkCellOrNone_0 rfl rfl ?_
  refine J_iconst (v := -1) hT dX8_checkCellOrNone_1 rfl ?_
  refine J_icmp_eq (tgt := 9) hT dX8_checkCellOrNone_2 (by decide) (fun q => absurd q (hn)) (fun _ => ?_)
  refine J_iload_n (i := 0) hT dX8_checkCellOrNone_5 rfl rfl ?_
  exact J_callSX hYX dX8_checkCellOrNone_6 mfX8_checkCell mtX8_checkCell (Or.inl mlX8_91) (x_X8_checkCell hZ hX h) rfl (by decide) rfl rfl (Nat.le_of_ble_eq_true rfl) (by first | exact Nat.le_refl _ | decide | omega) (by first | exact Nat.le_refl _ | decide | omega) mlX8_91

set_option maxRecDepth 100000 in
set_option maxHeartbeats 4000000 in
theorem c_X8_checkNumber {l : Launch} {Z : zZ} (hZ : zSt l Z) {a b c : Int32} (h0 : b ≤ a) (h1 : a ≤ c) {μ : zMem} : zCt l Z mX8_checkNumber 0 0 0 [.int a, .int b, .int c] μ (fun r μ' => r = none ∧ μ' = μ) := by
  refine zCt_of hZ mpX8_checkNumber (Nat.le_of_ble_eq_true rfl) (L := [some (.int a), some (.int b), some (.int c)]) rfl (fun τ hY => ?_)
  have hT := hY.1
  refine J_iload_n (i := 0) hT dX8_checkNumber_0 rfl rfl ?_
  refine J_iload_n (i := 1) hT dX8_checkNumber_1 rfl rfl ?_
  refine J_icmp_lt (tgt := 10) hT dX8_checkNumber_2 (by decide) (fun q => absurd q (Int32.not_lt.mpr h0)) (fun _ => ?_)
  refine J_iload_n (i := 0) hT dX8_checkNumber_5 rfl rfl ?_
  refine J_iload_n (i := 2) hT dX8_checkNumber_6 rfl rfl ?_
  refine J_icmp_le (tgt := 20) hT dX8_checkNumber_7 (by decide) (fun _ => ?_) (fun q => absurd (h1) q)
  exact J_vret hT dX8_checkNumber_20 rfl (⟨rfl, rfl⟩) (Nat.le_refl _) (Nat.le_refl _)

set_option maxRecDepth 100000 in
set_option maxHeartbeats 4000000 in
theorem x_X8_checkNumber {l : Launch} {Z : zZ} (hZ : zSt l Z) (hX : zXs Z) {a b c : Int32} (h : ¬ (b ≤ a ∧ a ≤ c)) {μ : zMem} : zCtX l Z mX8_checkNumber 0 1 6 [.int a, .int b, .int c] μ "java/lang/IllegalArgumentException" (fun μ' => μ' = μ) := by
  refine zCtX_of hZ mpX8_checkNumber (Nat.le_of_ble_eq_true rfl) (L := [some (.int a), some (.int b), some (.int c)]) rfl (fun τ hYX => ?_)
  have hY := hYX.1
  have hT := hY.1
  refine J_iload_n (i := 0) hT dX8_checkNumber_0 rfl rfl ?_
  refine J_iload_n (i := 1) hT dX8_checkNumber_1 rfl rfl ?_
  refine J_icmp_lt (tgt := 10) hT dX8_checkNumber_2 (by decide) (fun q2 => ?_) (fun q2 => ?_)
  · exact J_throw_iae hYX hX rfl (tx := "a number is out of range") (by decide) dX8_checkNumber_10 dX8_checkNumber_13 dX8_checkNumber_14 dX8_checkNumber_16 dX8_checkNumber_19 rfl (by decide) (rfl) (by first | exact Nat.le_refl _ | decide | omega) (by first | exact Nat.le_refl _ | decide | omega)
  · refine J_iload_n (i := 0) hT dX8_checkNumber_5 rfl rfl ?_
    refine J_iload_n (i := 2) hT dX8_checkNumber_6 rfl rfl ?_
    refine J_icmp_le (tgt := 20) hT dX8_checkNumber_7 (by decide) (fun q7 => ?_) (fun q7 => ?_)
    · exact absurd ⟨Int32.not_lt.mp q2, q7⟩ h
    · exact J_throw_iae hYX hX rfl (tx := "a number is out of range") (by decide) dX8_checkNumber_10 dX8_checkNumber_13 dX8_checkNumber_14 dX8_checkNumber_16 dX8_checkNumber_19 rfl (by decide) (rfl) (by first | exact Nat.le_refl _ | decide | omega) (by first | exact Nat.le_refl _ | decide | omega)

set_option maxRecDepth 100000 in
set_option maxHeartbeats 4000000 in
theorem c_X8_steps {l : Launch} {Z : zZ} (hZ : zSt l Z) {μ : zMem} {σ : zS2} {π : zP2} {g : zG2} {n : Nat} {S : zS2} (hC : CW n S μ σ π) : zCt l Z mX8_steps 0 0 0 [.ref 0] (zA4 μ σ π g) (fun r μ' => r = some (.int (nI n)) ∧ μ' = zA4 μ σ π g) := by
  refine zCt_of hZ mpX8_steps (Nat.le_of_ble_eq_true rfl) (L := [some (.ref 0)]) rfl (fun τ hY => ?_)
  have hT := hY.1
  have hM := hC.m
  have hB := hM.1.tb
  refine J_aload_n (i := 0) hT dX8_steps_0 rfl rfl ?_
  refine R_getI hT fX8_41 rfl dX8_steps_1 hC.k0 ?_
  refine J_topil (hC.ct) ?_
  exact J_iret hT dX8_steps_4 rfl rfl (⟨rfl, rfl⟩) (Nat.le_refl _) (Nat.le_refl _)

set_option maxRecDepth 100000 in
set_option maxHeartbeats 4000000 in
theorem c_X8_now {l : Launch} {Z : zZ} (hZ : zSt l Z) {μ : zMem} {σ : zS2} {π : zP2} {g : zG2} {n : Nat} {S : zS2} (hC : CW n S μ σ π) : zCt l Z mX8_now 0 0 0 [.ref 0] (zA4 μ σ π g) (fun r μ' => r = some (.int (S 67 34)) ∧ μ' = zA4 μ σ π g) := by
  refine zCt_of hZ mpX8_now (Nat.le_of_ble_eq_true rfl) (L := [some (.ref 0)]) rfl (fun τ hY => ?_)
  have hT := hY.1
  have hM := hC.m
  have hB := hM.1.tb
  refine J_aload_n (i := 0) hT dX8_now_0 rfl rfl ?_
  refine R_getP hT fX8_28 rfl dX8_now_1 hC.k0 hC.p2 ?_
  refine R_getI hT fX8_158 rfl dX8_now_4 hB.k ?_
  refine J_topil (hM.1.w) ?_
  exact J_iret hT dX8_now_7 rfl rfl (⟨rfl, rfl⟩) (Nat.le_refl _) (Nat.le_refl _)

set_option maxRecDepth 100000 in
set_option maxHeartbeats 4000000 in
theorem c_X8_work {l : Launch} {Z : zZ} (hZ : zSt l Z) {μ : zMem} {σ : zS2} {π : zP2} {g : zG2} {n : Nat} {S : zS2} (hC : CW n S μ σ π) : zCt l Z mX8_work 0 0 0 [.ref 0] (zA4 μ σ π g) (fun r μ' => r = some (.int (S 67 33)) ∧ μ' = zA4 μ σ π g) := by
  refine zCt_of hZ mpX8_work (Nat.le_of_ble_eq_true rfl) (L := [some (.ref 0)]) rfl (fun τ hY => ?_)
  have hT := hY.1
  have hM := hC.m
  have hB := hM.1.tb
  refine J_aload_n (i := 0) hT dX8_work_0 rfl rfl ?_
  refine R_getP hT fX8_28 rfl dX8_work_1 hC.k0 hC.p2 ?_
  refine R_getI hT fX8_186 rfl dX8_work_4 hB.k ?_
  refine J_topil (hM.1.wk) ?_
  exact J_iret hT dX8_work_7 rfl rfl (⟨rfl, rfl⟩) (Nat.le_refl _) (Nat.le_refl _)

set_option maxRecDepth 100000 in
set_option maxHeartbeats 4000000 in
theorem c_X8_value {l : Launch} {Z : zZ} (hZ : zSt l Z) {μ : zMem} {σ : zS2} {π : zP2} {g : zG2} {n : Nat} {S : zS2} (hC : CW n S μ σ π) {c : Nat} (hc : c < 12) : zCt l Z mX8_value 2 0 0 [.ref 0, .int (nI c)] (zA4 μ σ π g) (fun r μ' => r = some (.int (S 88 c)) ∧ μ' = zA4 μ σ π g) := by
  refine zCt_of hZ mpX8_value (Nat.le_of_ble_eq_true rfl) (L := [some (.ref 0), some (.int (nI c))]) rfl (fun τ hY => ?_)
  have hT := hY.1
  have hM := hC.m
  have hB := hM.1.tb
  refine J_iload_n (i := 1) hT dX8_value_0 rfl rfl ?_
  refine R_callS0 hY dX8_value_1 mfX8_checkCell mtX8_checkCell kX8_91 (c_X8_checkCell hZ hc) rfl (by decide) rfl rfl (Nat.le_of_ble_eq_true rfl) (Nat.le_refl _) (Nat.le_refl _) ?_
  refine J_aload_n (i := 0) hT dX8_value_4 rfl rfl ?_
  refine R_getP hT fX8_28 rfl dX8_value_5 hC.k0 hC.p2 ?_
  refine R_getP hT fX8_123 rfl dX8_value_8 hB.k hB.p1 ?_
  refine J_iload_n (i := 1) hT dX8_value_11 rfl rfl ?_
  refine R_aald1 hT dX8_value_12 hB.k3 (by decide) hB.l3 (by first | exact ⟨rfl, by decide⟩ | exact zix_nI (by omega) (by decide) | assumption) (hB.pc hc) ?_
  refine R_getI hT fX8_169 rfl dX8_value_13 (hB.kc hc) ?_
  refine J_topil (hM.1.val hc) ?_
  exact J_iret hT dX8_value_16 rfl rfl (⟨rfl, rfl⟩) (Nat.le_refl _) (Nat.le_refl _)

set_option maxRecDepth 100000 in
set_option maxHeartbeats 4000000 in
theorem x_X8_value {l : Launch} {Z : zZ} (hZ : zSt l Z) (hX : zXs Z) {a : Int32} (h : cellB a = false) {μ : zMem} : zCtX l Z mX8_value 2 1 6 [.ref 0, .int a] μ "java/lang/IndexOutOfBoundsException" (fun μ' => μ' = μ) := by
  refine zCtX_of hZ mpX8_value (Nat.le_of_ble_eq_true rfl) (L := [some (.ref 0), some (.int a)]) rfl (fun τ hYX => ?_)
  have hY := hYX.1
  have hT := hY.1
  refine J_iload_n (i := 1) hT dX8_value_0 rfl rfl ?_
  exact J_callSX hYX dX8_value_1 mfX8_checkCell mtX8_checkCell (Or.inl mlX8_91) (x_X8_checkCell hZ hX h) rfl (by decide) rfl rfl (Nat.le_of_ble_eq_true rfl) (by first | exact Nat.le_refl _ | decide | omega) (by first | exact Nat.le_refl _ | decide | omega) mlX8_91

set_option maxRecDepth 100000 in
set_option maxHeartbeats 4000000 in
theorem c_X8_depth {l : Launch} {Z : zZ} (hZ : zSt l Z) {μ : zMem} {σ : zS2} {π : zP2} {g : zG2} {n : Nat} {S : zS2} (hC : CW n S μ σ π) {c : Nat} (hc : c < 12) : zCt l Z mX8_depth 2 0 0 [.ref 0, .int (nI c)] (zA4 μ σ π g) (fun r μ' => r = some (.int (S 79 c)) ∧ μ' = zA4 μ σ π g) := by
  refine zCt_of hZ mpX8_depth (Nat.le_of_ble_eq_true rfl) (L := [some (.ref 0), some (.int (nI c))]) rfl (fun τ hY => ?_)
  have hT := hY.1
  have hM := hC.m
  have hB := hM.1.tb
  refine J_iload_n (i := 1) hT dX8_depth_0 rfl rfl ?_
  refine R_callS0 hY dX8_depth_1 mfX8_checkCell mtX8_checkCell kX8_91 (c_X8_checkCell hZ hc) rfl (by decide) rfl rfl (Nat.le_of_ble_eq_true rfl) (Nat.le_refl _) (Nat.le_refl _) ?_
  refine J_aload_n (i := 0) hT dX8_depth_4 rfl rfl ?_
  refine R_getP hT fX8_28 rfl dX8_depth_5 hC.k0 hC.p2 ?_
  refine R_getP hT fX8_123 rfl dX8_depth_8 hB.k hB.p1 ?_
  refine J_iload_n (i := 1) hT dX8_depth_11 rfl rfl ?_
  refine R_aald1 hT dX8_depth_12 hB.k3 (by decide) hB.l3 (by first | exact ⟨rfl, by decide⟩ | exact zix_nI (by omega) (by decide) | assumption) (hB.pc hc) ?_
  refine R_getI hT fX8_180 rfl dX8_depth_13 (hB.kc hc) ?_
  refine J_topil (hM.1.dep hc) ?_
  exact J_iret hT dX8_depth_16 rfl rfl (⟨rfl, rfl⟩) (Nat.le_refl _) (Nat.le_refl _)

set_option maxRecDepth 100000 in
set_option maxHeartbeats 4000000 in
theorem x_X8_depth {l : Launch} {Z : zZ} (hZ : zSt l Z) (hX : zXs Z) {a : Int32} (h : cellB a = false) {μ : zMem} : zCtX l Z mX8_depth 2 1 6 [.ref 0, .int a] μ "java/lang/IndexOutOfBoundsException" (fun μ' => μ' = μ) := by
  refine zCtX_of hZ mpX8_depth (Nat.le_of_ble_eq_true rfl) (L := [some (.ref 0), some (.int a)]) rfl (fun τ hYX => ?_)
  have hY := hYX.1
  have hT := hY.1
  refine J_iload_n (i := 1) hT dX8_depth_0 rfl rfl ?_
  exact J_callSX hYX dX8_depth_1 mfX8_checkCell mtX8_checkCell (Or.inl mlX8_91) (x_X8_checkCell hZ hX h) rfl (by decide) rfl rfl (Nat.le_of_ble_eq_true rfl) (by first | exact Nat.le_refl _ | decide | omega) (by first | exact Nat.le_refl _ | decide | omega) mlX8_91

set_option maxRecDepth 100000 in
set_option maxHeartbeats 4000000 in
theorem c_X8_state {l : Launch} {Z : zZ} (hZ : zSt l Z) {μ : zMem} {σ : zS2} {π : zP2} {g : zG2} {n : Nat} {S : zS2} (hC : CW n S μ σ π) {c : Nat} (hc : c < 5) : zCt l Z mX8_state 2 0 0 [.ref 0, .int (nI c)] (zA4 μ σ π g) (fun r μ' => r = some (.int (S 92 c)) ∧ μ' = zA4 μ σ π g) := by
  refine zCt_of hZ mpX8_state (Nat.le_of_ble_eq_true rfl) (L := [some (.ref 0), some (.int (nI c))]) rfl (fun τ hY => ?_)
  have hT := hY.1
  have hM := hC.m
  have hB := hM.1.tb
  refine J_iload_n (i := 1) hT dX8_state_0 rfl rfl ?_
  refine R_callS0 hY dX8_state_1 mfX8_checkService mtX8_checkService kX8_139 (c_X8_checkService hZ hc) rfl (by decide) rfl rfl (Nat.le_of_ble_eq_true rfl) (Nat.le_refl _) (Nat.le_refl _) ?_
  refine J_aload_n (i := 0) hT dX8_state_4 rfl rfl ?_
  refine R_getP hT fX8_28 rfl dX8_state_5 hC.k0 hC.p2 ?_
  refine R_getP hT fX8_147 rfl dX8_state_8 hB.k hB.p4 ?_
  refine J_iload_n (i := 1) hT dX8_state_11 rfl rfl ?_
  refine R_aald1 hT dX8_state_12 hB.k6 (by decide) hB.l6 (by first | exact ⟨rfl, by decide⟩ | exact zix_nI (by omega) (by decide) | assumption) (hB.ps hc) ?_
  refine R_getI hT fX8_151 rfl dX8_state_13 (hB.ks hc) ?_
  refine J_topil (hM.1.sst hc) ?_
  exact J_iret hT dX8_state_16 rfl rfl (⟨rfl, rfl⟩) (Nat.le_refl _) (Nat.le_refl _)

set_option maxRecDepth 100000 in
set_option maxHeartbeats 4000000 in
theorem x_X8_state {l : Launch} {Z : zZ} (hZ : zSt l Z) (hX : zXs Z) {a : Int32} (h : svcB a = false) {μ : zMem} : zCtX l Z mX8_state 2 1 6 [.ref 0, .int a] μ "java/lang/IndexOutOfBoundsException" (fun μ' => μ' = μ) := by
  refine zCtX_of hZ mpX8_state (Nat.le_of_ble_eq_true rfl) (L := [some (.ref 0), some (.int a)]) rfl (fun τ hYX => ?_)
  have hY := hYX.1
  have hT := hY.1
  refine J_iload_n (i := 1) hT dX8_state_0 rfl rfl ?_
  exact J_callSX hYX dX8_state_1 mfX8_checkService mtX8_checkService (Or.inl mlX8_139) (x_X8_checkService hZ hX h) rfl (by decide) rfl rfl (Nat.le_of_ble_eq_true rfl) (by first | exact Nat.le_refl _ | decide | omega) (by first | exact Nat.le_refl _ | decide | omega) mlX8_139

set_option maxRecDepth 100000 in
set_option maxHeartbeats 4000000 in
theorem c_X8_load {l : Launch} {Z : zZ} (hZ : zSt l Z) {μ : zMem} {σ : zS2} {π : zP2} {g : zG2} {n : Nat} {S : zS2} (hC : CW n S μ σ π) {c : Nat} (hc : c < 5) : zCt l Z mX8_load 2 0 0 [.ref 0, .int (nI c)] (zA4 μ σ π g) (fun r μ' => r = some (.int (S 95 c)) ∧ μ' = zA4 μ σ π g) := by
  refine zCt_of hZ mpX8_load (Nat.le_of_ble_eq_true rfl) (L := [some (.ref 0), some (.int (nI c))]) rfl (fun τ hY => ?_)
  have hT := hY.1
  have hM := hC.m
  have hB := hM.1.tb
  refine J_iload_n (i := 1) hT dX8_load_0 rfl rfl ?_
  refine R_callS0 hY dX8_load_1 mfX8_checkService mtX8_checkService kX8_139 (c_X8_checkService hZ hc) rfl (by decide) rfl rfl (Nat.le_of_ble_eq_true rfl) (Nat.le_refl _) (Nat.le_refl _) ?_
  refine J_aload_n (i := 0) hT dX8_load_4 rfl rfl ?_
  refine R_getP hT fX8_28 rfl dX8_load_5 hC.k0 hC.p2 ?_
  refine R_getP hT fX8_147 rfl dX8_load_8 hB.k hB.p4 ?_
  refine J_iload_n (i := 1) hT dX8_load_11 rfl rfl ?_
  refine R_aald1 hT dX8_load_12 hB.k6 (by decide) hB.l6 (by first | exact ⟨rfl, by decide⟩ | exact zix_nI (by omega) (by decide) | assumption) (hB.ps hc) ?_
  refine R_getI hT fX8_189 rfl dX8_load_13 (hB.ks hc) ?_
  refine J_topil (hM.1.lod hc) ?_
  exact J_iret hT dX8_load_16 rfl rfl (⟨rfl, rfl⟩) (Nat.le_refl _) (Nat.le_refl _)

set_option maxRecDepth 100000 in
set_option maxHeartbeats 4000000 in
theorem x_X8_load {l : Launch} {Z : zZ} (hZ : zSt l Z) (hX : zXs Z) {a : Int32} (h : svcB a = false) {μ : zMem} : zCtX l Z mX8_load 2 1 6 [.ref 0, .int a] μ "java/lang/IndexOutOfBoundsException" (fun μ' => μ' = μ) := by
  refine zCtX_of hZ mpX8_load (Nat.le_of_ble_eq_true rfl) (L := [some (.ref 0), some (.int a)]) rfl (fun τ hYX => ?_)
  have hY := hYX.1
  have hT := hY.1
  refine J_iload_n (i := 1) hT dX8_load_0 rfl rfl ?_
  exact J_callSX hYX dX8_load_1 mfX8_checkService mtX8_checkService (Or.inl mlX8_139) (x_X8_checkService hZ hX h) rfl (by decide) rfl rfl (Nat.le_of_ble_eq_true rfl) (by first | exact Nat.le_refl _ | decide | omega) (by first | exact Nat.le_refl _ | decide | omega) mlX8_139

set_option maxRecDepth 100000 in
set_option maxHeartbeats 4000000 in
theorem c_X8_told {l : Launch} {Z : zZ} (hZ : zSt l Z) {μ : zMem} {σ : zS2} {π : zP2} {g : zG2} {n : Nat} {S : zS2} (hC : CW n S μ σ π) {c : Nat} (hc : c < 5) : zCt l Z mX8_told 2 0 0 [.ref 0, .int (nI c)] (zA4 μ σ π g) (fun r μ' => r = some (.int (S 96 c)) ∧ μ' = zA4 μ σ π g) := by
  refine zCt_of hZ mpX8_told (Nat.le_of_ble_eq_true rfl) (L := [some (.ref 0), some (.int (nI c))]) rfl (fun τ hY => ?_)
  have hT := hY.1
  have hM := hC.m
  have hB := hM.1.tb
  refine J_iload_n (i := 1) hT dX8_told_0 rfl rfl ?_
  refine R_callS0 hY dX8_told_1 mfX8_checkService mtX8_checkService kX8_139 (c_X8_checkService hZ hc) rfl (by decide) rfl rfl (Nat.le_of_ble_eq_true rfl) (Nat.le_refl _) (Nat.le_refl _) ?_
  refine J_aload_n (i := 0) hT dX8_told_4 rfl rfl ?_
  refine R_getP hT fX8_28 rfl dX8_told_5 hC.k0 hC.p2 ?_
  refine R_getP hT fX8_147 rfl dX8_told_8 hB.k hB.p4 ?_
  refine J_iload_n (i := 1) hT dX8_told_11 rfl rfl ?_
  refine R_aald1 hT dX8_told_12 hB.k6 (by decide) hB.l6 (by first | exact ⟨rfl, by decide⟩ | exact zix_nI (by omega) (by decide) | assumption) (hB.ps hc) ?_
  refine R_getI hT fX8_192 rfl dX8_told_13 (hB.ks hc) ?_
  refine J_topil (hM.1.tld hc) ?_
  exact J_iret hT dX8_told_16 rfl rfl (⟨rfl, rfl⟩) (Nat.le_refl _) (Nat.le_refl _)

set_option maxRecDepth 100000 in
set_option maxHeartbeats 4000000 in
theorem x_X8_told {l : Launch} {Z : zZ} (hZ : zSt l Z) (hX : zXs Z) {a : Int32} (h : svcB a = false) {μ : zMem} : zCtX l Z mX8_told 2 1 6 [.ref 0, .int a] μ "java/lang/IndexOutOfBoundsException" (fun μ' => μ' = μ) := by
  refine zCtX_of hZ mpX8_told (Nat.le_of_ble_eq_true rfl) (L := [some (.ref 0), some (.int a)]) rfl (fun τ hYX => ?_)
  have hY := hYX.1
  have hT := hY.1
  refine J_iload_n (i := 1) hT dX8_told_0 rfl rfl ?_
  exact J_callSX hYX dX8_told_1 mfX8_checkService mtX8_checkService (Or.inl mlX8_139) (x_X8_checkService hZ hX h) rfl (by decide) rfl rfl (Nat.le_of_ble_eq_true rfl) (by first | exact Nat.le_refl _ | decide | omega) (by first | exact Nat.le_refl _ | decide | omega) mlX8_139

set_option maxRecDepth 100000 in
set_option maxHeartbeats 4000000 in
theorem c_X8_starts {l : Launch} {Z : zZ} (hZ : zSt l Z) {μ : zMem} {σ : zS2} {π : zP2} {g : zG2} {n : Nat} {S : zS2} (hC : CW n S μ σ π) {c : Nat} (hc : c < 5) : zCt l Z mX8_starts 2 0 0 [.ref 0, .int (nI c)] (zA4 μ σ π g) (fun r μ' => r = some (.int (S 97 c)) ∧ μ' = zA4 μ σ π g) := by
  refine zCt_of hZ mpX8_starts (Nat.le_of_ble_eq_true rfl) (L := [some (.ref 0), some (.int (nI c))]) rfl (fun τ hY => ?_)
  have hT := hY.1
  have hM := hC.m
  have hB := hM.1.tb
  refine J_iload_n (i := 1) hT dX8_starts_0 rfl rfl ?_
  refine R_callS0 hY dX8_starts_1 mfX8_checkService mtX8_checkService kX8_139 (c_X8_checkService hZ hc) rfl (by decide) rfl rfl (Nat.le_of_ble_eq_true rfl) (Nat.le_refl _) (Nat.le_refl _) ?_
  refine J_aload_n (i := 0) hT dX8_starts_4 rfl rfl ?_
  refine R_getP hT fX8_28 rfl dX8_starts_5 hC.k0 hC.p2 ?_
  refine R_getP hT fX8_147 rfl dX8_starts_8 hB.k hB.p4 ?_
  refine J_iload_n (i := 1) hT dX8_starts_11 rfl rfl ?_
  refine R_aald1 hT dX8_starts_12 hB.k6 (by decide) hB.l6 (by first | exact ⟨rfl, by decide⟩ | exact zix_nI (by omega) (by decide) | assumption) (hB.ps hc) ?_
  refine R_getI hT fX8_195 rfl dX8_starts_13 (hB.ks hc) ?_
  refine J_topil (hM.1.srt hc) ?_
  exact J_iret hT dX8_starts_16 rfl rfl (⟨rfl, rfl⟩) (Nat.le_refl _) (Nat.le_refl _)

set_option maxRecDepth 100000 in
set_option maxHeartbeats 4000000 in
theorem x_X8_starts {l : Launch} {Z : zZ} (hZ : zSt l Z) (hX : zXs Z) {a : Int32} (h : svcB a = false) {μ : zMem} : zCtX l Z mX8_starts 2 1 6 [.ref 0, .int a] μ "java/lang/IndexOutOfBoundsException" (fun μ' => μ' = μ) := by
  refine zCtX_of hZ mpX8_starts (Nat.le_of_ble_eq_true rfl) (L := [some (.ref 0), some (.int a)]) rfl (fun τ hYX => ?_)
  have hY := hYX.1
  have hT := hY.1
  refine J_iload_n (i := 1) hT dX8_starts_0 rfl rfl ?_
  exact J_callSX hYX dX8_starts_1 mfX8_checkService mtX8_checkService (Or.inl mlX8_139) (x_X8_checkService hZ hX h) rfl (by decide) rfl rfl (Nat.le_of_ble_eq_true rfl) (by first | exact Nat.le_refl _ | decide | omega) (by first | exact Nat.le_refl _ | decide | omega) mlX8_139

set_option maxRecDepth 100000 in
set_option maxHeartbeats 4000000 in
theorem c_X8_isStale {l : Launch} {Z : zZ} (hZ : zSt l Z) {μ : zMem} {σ : zS2} {π : zP2} {g : zG2} {n : Nat} {S : zS2} (hC : CW n S μ σ π) (hR : RI S) (hX : XI S) {c : Nat} (hc : c < 12) : zCt l Z mX8_isStale 2 0 0 [.ref 0, .int (nI c)] (zA4 μ σ π g) (fun r μ' => r = some (.int (zbi (staleB S c))) ∧ μ' = zA4 μ σ π g) := by
  refine zCt_of hZ mpX8_isStale (Nat.le_of_ble_eq_true rfl) (L := [some (.ref 0), some (.int (nI c))]) rfl (fun τ hY => ?_)
  have hT := hY.1
  have hM := hC.m
  have hB := hM.1.tb
  refine J_iload_n (i := 1) hT dX8_isStale_0 rfl rfl ?_
  refine R_callS0 hY dX8_isStale_1 mfX8_checkCell mtX8_checkCell kX8_91 (c_X8_checkCell hZ hc) rfl (by decide) rfl rfl (Nat.le_of_ble_eq_true rfl) (Nat.le_refl _) (Nat.le_refl _) ?_
  refine J_aload_n (i := 0) hT dX8_isStale_4 rfl rfl ?_
  refine R_getP hT fX8_28 rfl dX8_isStale_5 hC.k0 hC.p2 ?_
  refine R_callV1 (ci := 6) hY dX8_isStale_8 mfX6_findStale miX6_findStale msX6_findStale kX8_183 ⟨by decide, rfl⟩ hB.k (c_X6_findStale hZ ta5 hM hR.2.1 (fun r hr => (hX.2.2.2.1 r hr).2)) rfl (by decide) rfl rfl (Nat.le_of_ble_eq_true rfl) (Nat.le_refl _) (Nat.le_refl _) ?_
  refine J_iload_n (i := 1) hT dX8_isStale_11 rfl rfl ?_
  refine R_callS1 hY dX8_isStale_12 mfX8_has mtX8_has kX8_109 (c_X8_has hZ (show c < 32 by omega)) rfl (by decide) rfl rfl (Nat.le_of_ble_eq_true rfl) (Nat.le_refl _) (Nat.le_refl _) ?_
  exact J_iret hT dX8_isStale_15 rfl (zbi_nar _) (⟨by rw [fsN_bt S (by omega)]; simp [hc, show c < 17 by omega], rfl⟩) (Nat.le_refl _) (Nat.le_refl _)

set_option maxRecDepth 100000 in
set_option maxHeartbeats 4000000 in
theorem c_X8_isLoop {l : Launch} {Z : zZ} (hZ : zSt l Z) {μ : zMem} {σ : zS2} {π : zP2} {g : zG2} {n : Nat} {S : zS2} (hC : CW n S μ σ π) (hR : RI S) (hX : XI S) {c : Nat} (hc : c < 5) : zCt l Z mX8_isLoop 4 0 0 [.ref 0, .int (nI c)] (zA4 μ σ π g) (fun r μ' => r = some (.int (zbi (loopB S c))) ∧ μ' = zA4 μ σ π g) := by
  refine zCt_of hZ mpX8_isLoop (Nat.le_of_ble_eq_true rfl) (L := [some (.ref 0), some (.int (nI c))]) rfl (fun τ hY => ?_)
  have hT := hY.1
  have hM := hC.m
  have hB := hM.1.tb
  refine J_iload_n (i := 1) hT dX8_isLoop_0 rfl rfl ?_
  refine R_callS0 hY dX8_isLoop_1 mfX8_checkService mtX8_checkService kX8_139 (c_X8_checkService hZ hc) rfl (by decide) rfl rfl (Nat.le_of_ble_eq_true rfl) (Nat.le_refl _) (Nat.le_refl _) ?_
  refine J_aload_n (i := 0) hT dX8_isLoop_4 rfl rfl ?_
  refine R_getP hT fX8_28 rfl dX8_isLoop_5 hC.k0 hC.p2 ?_
  refine J_iload_n (i := 1) hT dX8_isLoop_8 rfl rfl ?_
  refine R_callV1 (ci := 6) hY dX8_isLoop_9 mfX6_hangsOnItself miX6_hangsOnItself msX6_hangsOnItself kX8_218 ⟨by decide, rfl⟩ hB.k (c_X6_hangsOnItself hZ ta5 hM hR hX hc) rfl (by decide) rfl rfl (Nat.le_of_ble_eq_true rfl) (Nat.le_refl _) (Nat.le_refl _) ?_
  exact J_iret hT dX8_isLoop_12 rfl (zbi_nar _) (⟨rfl, rfl⟩) (Nat.le_refl _) (Nat.le_refl _)

set_option maxRecDepth 100000 in
set_option maxHeartbeats 4000000 in
theorem x_X8_isStale {l : Launch} {Z : zZ} (hZ : zSt l Z) (hX : zXs Z) {a : Int32} (h : cellB a = false) {μ : zMem} : zCtX l Z mX8_isStale 2 1 6 [.ref 0, .int a] μ "java/lang/IndexOutOfBoundsException" (fun μ' => μ' = μ) := by
  refine zCtX_of hZ mpX8_isStale (Nat.le_of_ble_eq_true rfl) (L := [some (.ref 0), some (.int a)]) rfl (fun τ hYX => ?_)
  have hY := hYX.1
  have hT := hY.1
  refine J_iload_n (i := 1) hT dX8_isStale_0 rfl rfl ?_
  exact J_callSX hYX dX8_isStale_1 mfX8_checkCell mtX8_checkCell (Or.inl mlX8_91) (x_X8_checkCell hZ hX h) rfl (by decide) rfl rfl (Nat.le_of_ble_eq_true rfl) (by first | exact Nat.le_refl _ | decide | omega) (by first | exact Nat.le_refl _ | decide | omega) mlX8_91

set_option maxRecDepth 100000 in
set_option maxHeartbeats 4000000 in
theorem x_X8_isLoop {l : Launch} {Z : zZ} (hZ : zSt l Z) (hX : zXs Z) {a : Int32} (h : svcB a = false) {μ : zMem} : zCtX l Z mX8_isLoop 2 1 6 [.ref 0, .int a] μ "java/lang/IndexOutOfBoundsException" (fun μ' => μ' = μ) := by
  refine zCtX_of hZ mpX8_isLoop (Nat.le_of_ble_eq_true rfl) (L := [some (.ref 0), some (.int a)]) rfl (fun τ hYX => ?_)
  have hY := hYX.1
  have hT := hY.1
  refine J_iload_n (i := 1) hT dX8_isLoop_0 rfl rfl ?_
  exact J_callSX hYX dX8_isLoop_1 mfX8_checkService mtX8_checkService (Or.inl mlX8_139) (x_X8_checkService hZ hX h) rfl (by decide) rfl rfl (Nat.le_of_ble_eq_true rfl) (by first | exact Nat.le_refl _ | decide | omega) (by first | exact Nat.le_refl _ | decide | omega) mlX8_139

set_option maxRecDepth 100000 in
set_option maxHeartbeats 4000000 in
theorem x_X8_worth {l : Launch} {Z : zZ} (hZ : zSt l Z) (hX : zXs Z) {a : Int32} (h : cellB a = false) {μ : zMem} : zCtX l Z mX8_worth 2 1 6 [.ref 0, .int a] μ "java/lang/IndexOutOfBoundsException" (fun μ' => μ' = μ) := by
  refine zCtX_of hZ mpX8_worth (Nat.le_of_ble_eq_true rfl) (L := [some (.ref 0), some (.int a)]) rfl (fun τ hYX => ?_)
  have hY := hYX.1
  have hT := hY.1
  refine J_iload_n (i := 1) hT dX8_worth_0 rfl rfl ?_
  exact J_callSX hYX dX8_worth_1 mfX8_checkCell mtX8_checkCell (Or.inl mlX8_91) (x_X8_checkCell hZ hX h) rfl (by decide) rfl rfl (Nat.le_of_ble_eq_true rfl) (by first | exact Nat.le_refl _ | decide | omega) (by first | exact Nat.le_refl _ | decide | omega) mlX8_91

set_option maxRecDepth 100000 in
set_option maxHeartbeats 4000000 in
theorem x_X8_valueAnew {l : Launch} {Z : zZ} (hZ : zSt l Z) (hX : zXs Z) {a : Int32} (h : cellB a = false) {μ : zMem} : zCtX l Z mX8_valueAnew 2 1 6 [.ref 0, .int a] μ "java/lang/IndexOutOfBoundsException" (fun μ' => μ' = μ) := by
  refine zCtX_of hZ mpX8_valueAnew (Nat.le_of_ble_eq_true rfl) (L := [some (.ref 0), some (.int a)]) rfl (fun τ hYX => ?_)
  have hY := hYX.1
  have hT := hY.1
  refine J_iload_n (i := 1) hT dX8_valueAnew_0 rfl rfl ?_
  exact J_callSX hYX dX8_valueAnew_1 mfX8_checkCell mtX8_checkCell (Or.inl mlX8_91) (x_X8_checkCell hZ hX h) rfl (by decide) rfl rfl (Nat.le_of_ble_eq_true rfl) (by first | exact Nat.le_refl _ | decide | omega) (by first | exact Nat.le_refl _ | decide | omega) mlX8_91

set_option maxRecDepth 100000 in
set_option maxHeartbeats 4000000 in
theorem x_X8_trial {l : Launch} {Z : zZ} (hZ : zSt l Z) (hX : zXs Z) {a : Int32} (h : svcB a = false) {μ : zMem} : zCtX l Z mX8_trial 2 1 6 [.ref 0, .int a] μ "java/lang/IndexOutOfBoundsException" (fun μ' => μ' = μ) := by
  refine zCtX_of hZ mpX8_trial (Nat.le_of_ble_eq_true rfl) (L := [some (.ref 0), some (.int a), none]) rfl (fun τ hYX => ?_)
  have hY := hYX.1
  have hT := hY.1
  refine J_iload_n (i := 1) hT dX8_trial_0 rfl rfl ?_
  exact J_callSX hYX dX8_trial_1 mfX8_checkService mtX8_checkService (Or.inl mlX8_139) (x_X8_checkService hZ hX h) rfl (by decide) rfl rfl (Nat.le_of_ble_eq_true rfl) (by first | exact Nat.le_refl _ | decide | omega) (by first | exact Nat.le_refl _ | decide | omega) mlX8_139

set_option maxRecDepth 100000 in
set_option maxHeartbeats 4000000 in
theorem c_X8_worth {l : Launch} {Z : zZ} (hZ : zSt l Z) (hO : zOps Z) {μ : zMem} {σ : zS2} {π : zP2} {g : zG2} {n : Nat} {S : zS2} (hC : CW n S μ σ π) (hR : RI S) (hX : XI S) {c : Nat} (hc : c < 12) : zCt l Z mX8_worth 3 0 0 [.ref 0, .int (nI c)] (zA4 μ σ π g) (fun r μ' => r = some (.int (worthN S c)) ∧ ∃ σ', μ' = zA4 μ σ' π g ∧ CW n S μ σ' π ∧ ∀ b j, b ≠ 12 → σ' b j = σ b j) := by
  refine zCt_of hZ mpX8_worth (Nat.le_of_ble_eq_true rfl) (L := [some (.ref 0), some (.int (nI c))]) rfl (fun τ hY => ?_)
  have hT := hY.1
  have hM := hC.m
  have hB := hM.1.tb
  obtain ⟨f, hf, hF⟩ := hM.1.fm hc
  refine J_iload_n (i := 1) hT dX8_worth_0 rfl rfl ?_
  refine R_callS0 hY dX8_worth_1 mfX8_checkCell mtX8_checkCell kX8_91 (c_X8_checkCell hZ hc) rfl (by decide) rfl rfl (Nat.le_of_ble_eq_true rfl) (Nat.le_refl _) (Nat.le_refl _) ?_
  refine J_aload_n (i := 0) hT dX8_worth_4 rfl rfl ?_
  refine R_getP hT fX8_28 rfl dX8_worth_5 hC.k0 hC.p2 ?_
  refine J_aload_n (i := 0) hT dX8_worth_8 rfl rfl ?_
  refine R_getP hT fX8_28 rfl dX8_worth_9 hC.k0 hC.p2 ?_
  refine R_getP hT fX8_123 rfl dX8_worth_12 hB.k hB.p1 ?_
  refine J_iload_n (i := 1) hT dX8_worth_15 rfl rfl ?_
  refine R_aald1 hT dX8_worth_16 hB.k3 (by decide) hB.l3 (by first | exact ⟨rfl, by decide⟩ | exact zix_nI (by omega) (by decide) | assumption) (hB.pc hc) ?_
  refine R_getP hT fX8_172 rfl dX8_worth_17 (hB.kc hc) hf ?_
  refine J_callV (ci := 6) hY dX8_worth_20 mfX6_valueOf miX6_valueOf msX6_valueOf kX8_176 ⟨by decide, rfl⟩ hB.k (c_X6_valueOf hZ hO ta5 hM hX hF (hR.1 c hc).1) rfl (by decide) rfl rfl (Nat.le_of_ble_eq_true rfl) (Nat.le_refl _) (Nat.le_refl _) (fun r1 μ1 hq1 => ?_)
  obtain ⟨rfl, σ', rfl, hs⟩ := hq1
  show zJ _ _ _ _ (.int _ :: _) _ _ _
  exact J_iret hT dX8_worth_23 rfl rfl (⟨rfl, σ', rfl, hC.t5 (fun b j q => hs b j (fun e => q (e ▸ Or.inr (Or.inl rfl)))) zfP.rf (hM.row ta5 hs) (fun _ _ _ => rfl), hs⟩) (Nat.le_refl _) (Nat.le_refl _)


