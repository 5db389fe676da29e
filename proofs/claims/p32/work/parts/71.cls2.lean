set_option maxRecDepth 20000 in
theorem mth0 : Cond.initialized "java/lang/Math" ∈ ztb := ztb_in (zc1 (List.mem_of_getElem? (i := 14) rfl)) rfl
set_option maxRecDepth 20000 in
theorem mt_mmax : Cond.static Lib.Math.max.name ∈ ztb := ztb_in (zc2 (List.mem_of_getElem? (i := 221) rfl)) rfl
set_option maxRecDepth 20000 in
theorem mc_mmax : Cond.code Lib.Math.max.name Lib.Math.max.code 2 (some .int) ∈ ztb := ztb_in (zc2 (List.mem_of_getElem? (i := 222) rfl)) rfl
set_option maxRecDepth 20000 in
theorem kX6_226 : Cond.methodLink RX6 226 Lib.Math.max.name ∈ ztb := ztb_in (zc2 (List.mem_of_getElem? (i := 220) rfl)) rfl
set_option maxRecDepth 20000 in
theorem kX8_198 : Cond.methodLink RX8 198 Lib.Math.max.name ∈ ztb := ztb_in (zc3 (List.mem_of_getElem? (i := 89) rfl)) rfl
set_option maxRecDepth 20000 in
theorem kX2_44 : Cond.methodLink RX2 44 Lib.Math.max.name ∈ ztb := ztb_in (zc4 (List.mem_of_getElem? (i := 66) rfl)) rfl
theorem J_mmax {τ : zT} {M : zM} {kk mc ms : Nat} {F : State → Prop} {pc : Nat} {L : List (Option Value)} {st : List Value} {μ : zMem} {c k : Nat} (hT : zCx τ M kk mc ms) {x y : Int32} {idx : Nat} (hd : decode M.2.1 pc = .ok (.invokestatic idx, 3)) (hlink : Cond.methodLink M.1.cls idx Lib.Math.max.name ∈ ztb) (hL : L.length = M.2.2.1) (h8 : (st.map fun v => v.category).sum ≤ 8) (hc : c ≤ mc) (hk : k ≤ ms)
    (h : zJ τ F (pc + 3) L (.int (if x < y then y else x) :: st) μ c k) : zJ τ F pc L (.int y :: .int x :: st) μ c k := by
  intro ad H locs ls hw hLo hst
  obtain ⟨_, _, _, _, _, _, _, _, _, _, _, hfr, hlo, hcc, hss⟩ := id hT
  refine va_mmax hT.1 hT.2.1 (by rw [hT.2.2.1, ← hL]; exact hLo.1.symm) hT.own (hT.ws _ hlink) (hT.ws _ mt_mmax) (hT.ws _ mth0) (hT.ws _ mc_mmax) (by unfold zfr at hfr; omega) (by rw [zcat8]; unfold zlo at hlo; omega) (by omega) (by omega) hd ?_
  exact h ad H locs ls hw hLo (zoks_cons (zok_int _ _) (zoks_tl (zoks_tl hst)))

set_option maxRecDepth 20000 in
theorem mt_mmin : Cond.static Lib.Math.min.name ∈ ztb := ztb_in (zc2 (List.mem_of_getElem? (i := 224) rfl)) rfl
set_option maxRecDepth 20000 in
theorem mc_mmin : Cond.code Lib.Math.min.name Lib.Math.min.code 2 (some .int) ∈ ztb := ztb_in (zc2 (List.mem_of_getElem? (i := 225) rfl)) rfl
set_option maxRecDepth 20000 in
theorem kX6_221 : Cond.methodLink RX6 221 Lib.Math.min.name ∈ ztb := ztb_in (zc2 (List.mem_of_getElem? (i := 223) rfl)) rfl
theorem J_mmin {τ : zT} {M : zM} {kk mc ms : Nat} {F : State → Prop} {pc : Nat} {L : List (Option Value)} {st : List Value} {μ : zMem} {c k : Nat} (hT : zCx τ M kk mc ms) {x y : Int32} {idx : Nat} (hd : decode M.2.1 pc = .ok (.invokestatic idx, 3)) (hlink : Cond.methodLink M.1.cls idx Lib.Math.min.name ∈ ztb) (hL : L.length = M.2.2.1) (h8 : (st.map fun v => v.category).sum ≤ 8) (hc : c ≤ mc) (hk : k ≤ ms)
    (h : zJ τ F (pc + 3) L (.int (if y < x then y else x) :: st) μ c k) : zJ τ F pc L (.int y :: .int x :: st) μ c k := by
  intro ad H locs ls hw hLo hst
  obtain ⟨_, _, _, _, _, _, _, _, _, _, _, hfr, hlo, hcc, hss⟩ := id hT
  refine va_mmin hT.1 hT.2.1 (by rw [hT.2.2.1, ← hL]; exact hLo.1.symm) hT.own (hT.ws _ hlink) (hT.ws _ mt_mmin) (hT.ws _ mth0) (hT.ws _ mc_mmin) (by unfold zfr at hfr; omega) (by rw [zcat8]; unfold zlo at hlo; omega) (by omega) (by omega) hd ?_
  exact h ad H locs ls hw hLo (zoks_cons (zok_int _ _) (zoks_tl (zoks_tl hst)))

set_option maxRecDepth 20000 in
theorem mt_mmaxL : Cond.static Lib.MathLoose.max_long.x ∈ ztb := ztb_in (zc2 (List.mem_of_getElem? (i := 235) rfl)) rfl
set_option maxRecDepth 20000 in
theorem mc_mmaxL : Cond.code Lib.MathLoose.max_long.x Lib.MathLoose.max_long.code 4 (some .long) ∈ ztb := ztb_in (zc2 (List.mem_of_getElem? (i := 236) rfl)) rfl
set_option maxRecDepth 20000 in
theorem kX8_248 : Cond.methodLink RX8 248 Lib.MathLoose.max_long.x ∈ ztb := ztb_in (zc2 (List.mem_of_getElem? (i := 234) rfl)) rfl
theorem J_mmaxL {τ : zT} {M : zM} {kk mc ms : Nat} {F : State → Prop} {pc : Nat} {L : List (Option Value)} {st : List Value} {μ : zMem} {c k : Nat} (hT : zCx τ M kk mc ms) {x y : Int64} {idx : Nat} (hd : decode M.2.1 pc = .ok (.invokestatic idx, 3)) (hlink : Cond.methodLink M.1.cls idx Lib.MathLoose.max_long.x ∈ ztb) (hL : L.length = M.2.2.1) (h8 : (st.map fun v => v.category).sum ≤ 8) (hc : c ≤ mc) (hk : k ≤ ms)
    (h : zJ τ F (pc + 3) L (.long (if y < x then x else y) :: st) μ c k) : zJ τ F pc L (.long y :: .long x :: st) μ c k := by
  intro ad H locs ls hw hLo hst
  obtain ⟨_, _, _, _, _, _, _, _, _, _, _, hfr, hlo, hcc, hss⟩ := id hT
  refine va_mmax_long hT.1 hT.2.1 (by rw [hT.2.2.1, ← hL]; exact hLo.1.symm) hT.own (hT.ws _ hlink) (hT.ws _ mt_mmaxL) (hT.ws _ mth0) (hT.ws _ mc_mmaxL) (by unfold zfr at hfr; omega) (by rw [zcat8]; unfold zlo at hlo; omega) (by omega) (by omega) hd ?_
  exact h ad H locs ls hw hLo (zoks_cons (zok_long _ _) (zoks_tl (zoks_tl hst)))

set_option maxRecDepth 20000 in
theorem mt_mminL : Cond.static Lib.MathLoose.min_long.x ∈ ztb := ztb_in (zc2 (List.mem_of_getElem? (i := 232) rfl)) rfl
set_option maxRecDepth 20000 in
theorem mc_mminL : Cond.code Lib.MathLoose.min_long.x Lib.MathLoose.min_long.code 4 (some .long) ∈ ztb := ztb_in (zc2 (List.mem_of_getElem? (i := 233) rfl)) rfl
set_option maxRecDepth 20000 in
theorem kX8_244 : Cond.methodLink RX8 244 Lib.MathLoose.min_long.x ∈ ztb := ztb_in (zc2 (List.mem_of_getElem? (i := 231) rfl)) rfl
theorem J_mminL {τ : zT} {M : zM} {kk mc ms : Nat} {F : State → Prop} {pc : Nat} {L : List (Option Value)} {st : List Value} {μ : zMem} {c k : Nat} (hT : zCx τ M kk mc ms) {x y : Int64} {idx : Nat} (hd : decode M.2.1 pc = .ok (.invokestatic idx, 3)) (hlink : Cond.methodLink M.1.cls idx Lib.MathLoose.min_long.x ∈ ztb) (hL : L.length = M.2.2.1) (h8 : (st.map fun v => v.category).sum ≤ 8) (hc : c ≤ mc) (hk : k ≤ ms)
    (h : zJ τ F (pc + 3) L (.long (if y < x then y else x) :: st) μ c k) : zJ τ F pc L (.long y :: .long x :: st) μ c k := by
  intro ad H locs ls hw hLo hst
  obtain ⟨_, _, _, _, _, _, _, _, _, _, _, hfr, hlo, hcc, hss⟩ := id hT
  refine va_mmin_long hT.1 hT.2.1 (by rw [hT.2.2.1, ← hL]; exact hLo.1.symm) hT.own (hT.ws _ hlink) (hT.ws _ mt_mminL) (hT.ws _ mth0) (hT.ws _ mc_mminL) (by unfold zfr at hfr; omega) (by rw [zcat8]; unfold zlo at hlo; omega) (by omega) (by omega) hd ?_
  exact h ad H locs ls hw hLo (zoks_cons (zok_long _ _) (zoks_tl (zoks_tl hst)))

set_option maxRecDepth 100000 in
set_option maxHeartbeats 4000000 in
theorem c_X8_has {l : Launch} {Z : zZ} (hZ : zSt l Z) {m : Int32} {i : Nat} (hi : i < 32) {μ : zMem} : zCt l Z mX8_has 0 0 0 [.int m, .int (nI i)] μ (fun r μ' => r = some (.int (zbi (bt m i))) ∧ μ' = μ) := by
  refine zCt_of hZ mpX8_has (Nat.le_of_ble_eq_true rfl) (L := [some (.int m), some (.int (nI i))]) rfl (fun τ hY => ?_)
  have hT := hY.1
  refine J_iload_n (i := 0) hT dX8_has_0 rfl rfl ?_
  refine J_iload_n (i := 1) hT dX8_has_1 rfl rfl ?_
  refine J_ishr hT dX8_has_2 ?_
  refine J_iconst (v := 1) hT dX8_has_3 rfl ?_
  refine J_iand hT dX8_has_4 ?_
  refine J_if_eq (tgt := 12) hT dX8_has_5 (by decide) (fun q5 => ?_) (fun q5 => ?_)
  · refine J_iconst (v := 0) hT dX8_has_12 rfl ?_
    exact J_iret hT dX8_has_13 rfl rfl (⟨by congr 2; simp only [ne_eq, b_has0 m i hi] at *; simp_all [zbi], rfl⟩) (Nat.le_refl _) (Nat.le_refl _)
  · refine J_iconst (v := 1) hT dX8_has_8 rfl ?_
    refine J_goto (tgt := 13) hT dX8_has_9 (by decide) ?_
    exact J_iret hT dX8_has_13 rfl rfl (⟨by congr 2; simp only [ne_eq, b_has0 m i hi] at *; simp_all [zbi], rfl⟩) (Nat.le_refl _) (Nat.le_refl _)

set_option maxRecDepth 100000 in
set_option maxHeartbeats 4000000 in
theorem c_X8_bit {l : Launch} {Z : zZ} (hZ : zSt l Z) {i : Int32} {μ : zMem} : zCt l Z mX8_bit 0 0 0 [.int i] μ (fun r μ' => r = some (.int ((1 : Int32) <<< (i &&& 31))) ∧ μ' = μ) := by
  refine zCt_of hZ mpX8_bit (Nat.le_of_ble_eq_true rfl) (L := [some (.int i)]) rfl (fun τ hY => ?_)
  have hT := hY.1
  refine J_iconst (v := 1) hT dX8_bit_0 rfl ?_
  refine J_iload_n (i := 0) hT dX8_bit_1 rfl rfl ?_
  refine J_ishl hT dX8_bit_2 ?_
  exact J_iret hT dX8_bit_3 rfl rfl (⟨rfl, rfl⟩) (Nat.le_refl _) (Nat.le_refl _)

set_option maxRecDepth 100000 in
set_option maxHeartbeats 4000000 in
theorem c_X8_isFigure {l : Launch} {Z : zZ} (hZ : zSt l Z) {a : Int32} {μ : zMem} : zCt l Z mX8_isFigure 0 0 0 [.int a] μ (fun r μ' => r = some (.int (zbi (figB a))) ∧ μ' = μ) := by
  refine zCt_of hZ mpX8_isFigure (Nat.le_of_ble_eq_true rfl) (L := [some (.int a)]) rfl (fun τ hY => ?_)
  have hT := hY.1
  refine J_iload_n (i := 0) hT dX8_isFigure_0 rfl rfl ?_
  refine J_bipush (v := 48) hT dX8_isFigure_1 rfl ?_
  refine J_icmp_lt (tgt := 16) hT dX8_isFigure_3 (by decide) (fun q3 => ?_) (fun q3 => ?_)
  · refine J_iconst (v := 0) hT dX8_isFigure_16 rfl ?_
    exact J_iret hT dX8_isFigure_17 rfl rfl (⟨by congr 2; simp only [zbi, figB, Int32.lt_iff_toInt_lt, Int32.le_iff_toInt_le, ge_iff_le, gt_iff_lt, Bool.and_eq_true, Bool.or_eq_true, decide_eq_true_eq, Int32.reduceToInt] at *; split <;> first | rfl | omega, rfl⟩) (Nat.le_refl _) (Nat.le_refl _)
  · refine J_iload_n (i := 0) hT dX8_isFigure_6 rfl rfl ?_
    refine J_bipush (v := 57) hT dX8_isFigure_7 rfl ?_
    refine J_icmp_gt (tgt := 16) hT dX8_isFigure_9 (by decide) (fun q9 => ?_) (fun q9 => ?_)
    · refine J_iconst (v := 0) hT dX8_isFigure_16 rfl ?_
      exact J_iret hT dX8_isFigure_17 rfl rfl (⟨by congr 2; simp only [zbi, figB, Int32.lt_iff_toInt_lt, Int32.le_iff_toInt_le, ge_iff_le, gt_iff_lt, Bool.and_eq_true, Bool.or_eq_true, decide_eq_true_eq, Int32.reduceToInt] at *; split <;> first | rfl | omega, rfl⟩) (Nat.le_refl _) (Nat.le_refl _)
    · refine J_iconst (v := 1) hT dX8_isFigure_12 rfl ?_
      refine J_goto (tgt := 17) hT dX8_isFigure_13 (by decide) ?_
      exact J_iret hT dX8_isFigure_17 rfl rfl (⟨by congr 2; simp only [zbi, figB, Int32.lt_iff_toInt_lt, Int32.le_iff_toInt_le, ge_iff_le, gt_iff_lt, Bool.and_eq_true, Bool.or_eq_true, decide_eq_true_eq, Int32.reduceToInt] at *; split <;> first | rfl | omega, rfl⟩) (Nat.le_refl _) (Nat.le_refl _)

set_option maxRecDepth 20000 in
theorem cl8_240 : Cond.constantLong RX8 240 (-1000000) ∈ ztb := ztb_in (zc2 (List.mem_of_getElem? (i := 229) rfl)) rfl
set_option maxRecDepth 20000 in
theorem cl8_242 : Cond.constantLong RX8 242 1000000 ∈ ztb := ztb_in (zc2 (List.mem_of_getElem? (i := 230) rfl)) rfl
set_option maxRecDepth 100000 in
set_option maxHeartbeats 4000000 in
theorem c_X8_within {l : Launch} {Z : zZ} (hZ : zSt l Z) {x : Int} (h1 : -9223372036854775808 ≤ x) (h2 : x < 9223372036854775808) {μ : zMem} : zCt l Z mX8_within 0 0 0 [.long (lI x)] μ (fun r μ' => r = some (.int (Int32.ofInt (clampI x))) ∧ μ' = μ) := by
  refine zCt_of hZ mpX8_within (Nat.le_of_ble_eq_true rfl) (L := [some (.long (lI x)), none]) rfl (fun τ hY => ?_)
  have hT := hY.1
  refine J_ldc2 hT dX8_within_0 cl8_240 ?_
  refine J_ldc2 hT dX8_within_3 cl8_242 ?_
  refine J_lload_n (i := 0) hT dX8_within_6 rfl rfl ?_
  refine J_mminL hT dX8_within_7 kX8_244 rfl (by decide) (Nat.le_refl _) (Nat.le_refl _) ?_
  refine J_mmaxL hT dX8_within_10 kX8_248 rfl (by decide) (Nat.le_refl _) (Nat.le_refl _) ?_
  refine J_l2i hT dX8_within_13 ?_
  exact J_iret hT dX8_within_14 rfl rfl (⟨by
      have e1 : (if lI x < (1000000 : Int64) then lI x else (1000000 : Int64)) = lI (if x < 1000000 then x else 1000000) := by
        rw [show (1000000 : Int64) = lI 1000000 from rfl]
        simp only [lI_lt h1 h2 (show -9223372036854775808 ≤ (1000000 : Int) by decide) (by decide)]
        split <;> rfl
      have l1 : -9223372036854775808 ≤ (if x < 1000000 then x else 1000000) := by split <;> omega
      have l2 : (if x < 1000000 then x else 1000000) < 9223372036854775808 := by split <;> omega
      have e2 : (if lI (if x < 1000000 then x else 1000000) < lI (-1000000) then lI (-1000000) else lI (if x < 1000000 then x else 1000000)) = lI (clampI x) := by
        simp only [lI_lt l1 l2 (show -9223372036854775808 ≤ (-1000000 : Int) by decide) (by decide)]
        unfold clampI
        split <;> split <;> (try split) <;> (try split) <;> first | rfl | omega | (congr 1; omega)
      rw [e1, show (-1000000 : Int64) = lI (-1000000) from rfl]
      rw [e2, lI_32], rfl⟩) (Nat.le_refl _) (Nat.le_refl _)


