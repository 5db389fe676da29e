
/-- a row of an array holds a list, the last one put first -/
def zOp (σ : Nat → Nat → Int32) (a : Nat) : List Nat → Prop
  | [] => True
  | x :: s => σ a s.length = nI x ∧ zOp σ a s
theorem zOp_mv {σ σ' : Nat → Nat → Int32} {a : Nat} {s : List Nat} (h : zOp σ a s) (e : ∀ j, j < s.length → σ' a j = σ a j) : zOp σ' a s := by
  induction s with
  | nil => trivial
  | cons x s ih => exact ⟨(e s.length (Nat.lt_succ_self _)).trans h.1, ih h.2 (fun j hj => e j (by simp only [List.length_cons]; omega))⟩
theorem zOp_push {σ : Nat → Nat → Int32} {a : Nat} {s : List Nat} (h : zOp σ a s) (x : Nat) : zOp (zu σ a s.length (nI x)) a (x :: s) :=
  ⟨zu_eq _ _ _ _, zOp_mv h (fun j hj => by have : ¬ j = s.length := by omega
                                           simp [zu, this])⟩
def rkN (d : Nat) : Nat := if d = 1 then 4 else if d = 4 then 3 else if d = 2 ∨ d = 3 then 2 else if d = 11 then 0 else 1
theorem rkN_eq : ∀ d, d < 12 → rankN (nI d) = nI (rkN d) := by decide +kernel
theorem rkN_le (d : Nat) : rkN d ≤ 4 := by
  unfold rkN
  repeat' split
  all_goals omega
/-- open deeds are made, down to a rank or to where something was opened -/
def clsF (r : Nat) : List Nat → List Nat → List Nat × List Nat
  | ks, [] => (ks, [])
  | ks, d :: s => if d ≠ 11 ∧ r ≤ rkN d then clsF r ((30000 + d) :: ks) s else (ks, d :: s)
def ng (op : List Nat) : Nat := op.countP (fun d => decide (d ≠ 11))
def PM (σ : Nat → Nat → Int32) (mk op : List Nat) : Prop := σ 67 3 = nI mk.length ∧ σ 67 5 = nI op.length ∧ zOp σ 69 mk ∧ zOp σ 70 op ∧ mk.length ≤ 30 ∧ op.length ≤ 62 ∧ ∀ d, d ∈ op → d < 12
/-- the same but for what is made and how much is open -/
def zpc (σ σ' : Nat → Nat → Int32) : Prop := ∀ b j, b ≠ 69 → ¬ (b = 67 ∧ (j = 3 ∨ j = 5)) → σ' b j = σ b j
theorem zpc_refl (σ : Nat → Nat → Int32) : zpc σ σ := fun _ _ _ _ => rfl
theorem zpc_trans {a b c : Nat → Nat → Int32} (h1 : zpc a b) (h2 : zpc b c) : zpc a c := fun x j p q => (h2 x j p q).trans (h1 x j p q)
theorem PM_close {σ : Nat → Nat → Int32} {mk s : List Nat} {d : Nat} (h : PM σ mk (d :: s)) (hn : mk.length < 30) : PM (zu (zu (zu σ 67 5 (nI s.length)) 69 mk.length (nI (30000 + d))) 67 3 (nI (mk.length + 1))) ((30000 + d) :: mk) s ∧ zpc σ (zu (zu (zu σ 67 5 (nI s.length)) 69 mk.length (nI (30000 + d))) 67 3 (nI (mk.length + 1))) := by
  obtain ⟨h1, h2, h3, h4, h5, h6, h7⟩ := h
  simp only [List.length_cons] at h6
  refine ⟨⟨by simp [zu], by simp [zu], ?_, ?_, by simp only [List.length_cons]; omega, by omega, fun x hx => h7 x (List.mem_cons_of_mem _ hx)⟩, ?_⟩
  · refine ⟨by simp [zu], zOp_mv h3 (fun j hj => ?_)⟩
    have : ¬ j = mk.length := by omega
    simp [zu, this]
  · exact zOp_mv h4.2 (fun j hj => by simp [zu])
  · intro b j hb hc
    have h1 : ¬ (b = 67 ∧ j = 5) := fun q => hc ⟨q.1, Or.inr q.2⟩
    have h2 : ¬ (b = 67 ∧ j = 3) := fun q => hc ⟨q.1, Or.inl q.2⟩
    simp only [zu, h1, h2, hb, false_and, if_false]
theorem clsF_s {r d : Nat} {mk s : List Nat} (h : d ≠ 11 ∧ r ≤ rkN d) : clsF r mk (d :: s) = clsF r ((30000 + d) :: mk) s := by rw [clsF, if_pos h]
theorem clsF_n {r d : Nat} {mk s : List Nat} (h : ¬ (d ≠ 11 ∧ r ≤ rkN d)) : clsF r mk (d :: s) = (mk, d :: s) := by rw [clsF, if_neg h]

set_option maxRecDepth 100000 in
set_option maxHeartbeats 4000000 in
theorem c_X9_closes {l : Launch} {Z : zZ} (hZ : zSt l Z) {μ : zMem} {σ : Nat → Nat → Int32} {π : Nat → Nat → Option Nat} {g : Nat → Nat → Int64} (hS : zRef μ π) {rr : Nat} (hr : rr ≤ 4) {mk0 op0 : List Nat} (hP : PM σ mk0 op0) (hng : mk0.length + ng op0 ≤ 30) : zCt l Z mX9_closes 1 0 0 [.ref 67, .int (nI rr)] (zA4 μ σ π g) (fun r μ' => r = none ∧ ∃ σ', μ' = zA4 μ σ' π g ∧ zpc σ σ' ∧ PM σ' (clsF rr mk0 op0).1 (clsF rr mk0 op0).2) := by
  refine zCt_of hZ mpX9_closes (Nat.le_of_ble_eq_true rfl) (L := [some (.ref 67), some (.int (nI rr))]) rfl (fun τ hY => ?_)
  have hT := hY.1
  have fin : ∀ mk op σ1, zpc σ σ1 → PM σ1 mk op → clsF rr mk0 op0 = (mk, op) → (none : Option Value) = none ∧ ∃ σ', zA4 μ σ1 π g = zA4 μ σ' π g ∧ zpc σ σ' ∧ PM σ' (clsF rr mk0 op0).1 (clsF rr mk0 op0).2 := by
    intro mk op σ1 h1 h2 e
    refine ⟨rfl, σ1, rfl, h1, ?_⟩
    rw [e]
    exact h2
  have loop : ∀ op mk σ1, zpc σ σ1 → PM σ1 mk op → mk.length + ng op ≤ 30 → clsF rr mk0 op0 = clsF rr mk op → zJ τ (zFn τ (fun r μ' => r = none ∧ ∃ σ', μ' = zA4 μ σ' π g ∧ zpc σ σ' ∧ PM σ' (clsF rr mk0 op0).1 (clsF rr mk0 op0).2) 0 0) 0 [some (.ref 67), some (.int (nI rr))] [] (zA4 μ σ1 π g) 0 0 := by
    intro op
    induction op with
    | nil =>
      intro mk σ1 h1 h2 h3 e
      refine J_aload_n (i := 0) hT dX9_closes_0 rfl rfl ?_
      refine R_getI hT fX9_157 rfl dX9_closes_1 (rk hS) ?_
      refine J_topil ((show σ1 67 5 = nI 0 from h2.2.1)) ?_
      refine J_if_le (tgt := 71) hT dX9_closes_4 (by decide) (fun _ => ?_) (fun q => absurd (by decide) q)
      exact J_vret hT dX9_closes_71 rfl (fin mk [] σ1 h1 h2 (e.trans (by rw [clsF]))) (Nat.le_refl _) (Nat.le_refl _)
    | cons d s ih =>
      intro mk σ1 h1 h2 h3 e
      have hd := h2.2.2.2.2.2.2 d (List.mem_cons_self ..)
      have h62 : s.length < 62 := by have := h2.2.2.2.2.2.1; simp only [List.length_cons] at this; omega
      by_cases e11 : d = 11
      · have ec := e.trans (clsF_n (fun q => q.1 e11))
        refine J_aload_n (i := 0) hT dX9_closes_0 rfl rfl ?_
        refine R_getI hT fX9_157 rfl dX9_closes_1 (rk hS) ?_
        refine J_topil ((show σ1 67 5 = nI (s.length + 1) from h2.2.1)) ?_
        refine J_if_le (tgt := 71) hT dX9_closes_4 (by decide) (fun q => absurd q (Int32.not_le.mpr (nI_lt (a := 0) (b := s.length + 1) (by omega) (by omega)))) (fun _ => ?_)
        refine J_aload_n (i := 0) hT dX9_closes_7 rfl rfl ?_
        refine R_getP hT fX9_16 rfl dX9_closes_8 (rk hS) (rp_open hS) ?_
        refine J_aload_n (i := 0) hT dX9_closes_11 rfl rfl ?_
        refine R_getI hT fX9_157 rfl dX9_closes_12 (rk hS) ?_
        refine J_topil ((show σ1 67 5 = nI (s.length + 1) from h2.2.1)) ?_
        refine J_iconst (v := 1) hT dX9_closes_15 rfl ?_
        refine J_isub hT dX9_closes_16 ?_
        refine J_topil ((nI_pred s.length)) ?_
        refine R_iald hT dX9_closes_17 (rk_open hS) (rl_open hS) (zix_nI h62 (by decide)) ?_
        refine J_topil (h2.2.2.2.1.1) ?_
        refine J_bipush (v := 11) hT dX9_closes_18 rfl ?_
        refine J_icmp_eq (tgt := 71) hT dX9_closes_20 (by decide) (fun _ => ?_) (fun q => absurd (congrArg nI e11) q)
        exact J_vret hT dX9_closes_71 rfl (fin mk (d :: s) σ1 h1 h2 ec) (Nat.le_refl _) (Nat.le_refl _)
      · by_cases hle : rr ≤ rkN d
        · have ec := e.trans (clsF_s ⟨e11, hle⟩)
          have hn30 : mk.length < 30 ∧ (mk.length + 1) + ng s ≤ 30 := by
            have : ng (d :: s) = ng s + 1 := by simp [ng, e11]
            omega
          obtain ⟨p1, p2⟩ := PM_close h2 hn30.1
          have hm3 : zu σ1 67 5 (nI s.length) 67 3 = nI mk.length := by simp [zu, h2.1]
          refine J_aload_n (i := 0) hT dX9_closes_0 rfl rfl ?_
          refine R_getI hT fX9_157 rfl dX9_closes_1 (rk hS) ?_
          refine J_topil ((show σ1 67 5 = nI (s.length + 1) from h2.2.1)) ?_
          refine J_if_le (tgt := 71) hT dX9_closes_4 (by decide) (fun q => absurd q (Int32.not_le.mpr (nI_lt (a := 0) (b := s.length + 1) (by omega) (by omega)))) (fun _ => ?_)
          refine J_aload_n (i := 0) hT dX9_closes_7 rfl rfl ?_
          refine R_getP hT fX9_16 rfl dX9_closes_8 (rk hS) (rp_open hS) ?_
          refine J_aload_n (i := 0) hT dX9_closes_11 rfl rfl ?_
          refine R_getI hT fX9_157 rfl dX9_closes_12 (rk hS) ?_
          refine J_topil ((show σ1 67 5 = nI (s.length + 1) from h2.2.1)) ?_
          refine J_iconst (v := 1) hT dX9_closes_15 rfl ?_
          refine J_isub hT dX9_closes_16 ?_
          refine J_topil ((nI_pred s.length)) ?_
          refine R_iald hT dX9_closes_17 (rk_open hS) (rl_open hS) (zix_nI h62 (by decide)) ?_
          refine J_topil (h2.2.2.2.1.1) ?_
          refine J_bipush (v := 11) hT dX9_closes_18 rfl ?_
          refine J_icmp_eq (tgt := 71) hT dX9_closes_20 (by decide) (fun q => absurd q (fun q => e11 ((nI_eq (a := d) (b := 11) (by omega) (by decide)).mp q))) (fun _ => ?_)
          refine J_aload_n (i := 0) hT dX9_closes_23 rfl rfl ?_
          refine R_getP hT fX9_16 rfl dX9_closes_24 (rk hS) (rp_open hS) ?_
          refine J_aload_n (i := 0) hT dX9_closes_27 rfl rfl ?_
          refine R_getI hT fX9_157 rfl dX9_closes_28 (rk hS) ?_
          refine J_topil ((show σ1 67 5 = nI (s.length + 1) from h2.2.1)) ?_
          refine J_iconst (v := 1) hT dX9_closes_31 rfl ?_
          refine J_isub hT dX9_closes_32 ?_
          refine J_topil ((nI_pred s.length)) ?_
          refine R_iald hT dX9_closes_33 (rk_open hS) (rl_open hS) (zix_nI h62 (by decide)) ?_
          refine J_topil (h2.2.2.2.1.1) ?_
          refine R_callS1 hY dX9_closes_34 mfX9_rank mtX9_rank kX9_160 (c_X9_rank hZ) rfl (by decide) rfl rfl (Nat.le_of_ble_eq_true rfl) (Nat.le_refl _) (Nat.le_refl _) ?_
          refine J_topil ((rkN_eq d hd)) ?_
          refine J_iload_n (i := 1) hT dX9_closes_37 rfl rfl ?_
          refine J_icmp_lt (tgt := 71) hT dX9_closes_38 (by decide) (fun q => absurd q (Int32.not_lt.mpr (nI_le (a := rr) (b := rkN d) hle (by have := rkN_le d; omega)))) (fun _ => ?_)
          refine J_aload_n (i := 0) hT dX9_closes_41 rfl rfl ?_
          refine J_dup hT dX9_closes_42 rfl ?_
          refine R_getI hT fX9_157 rfl dX9_closes_43 (rk hS) ?_
          refine J_topil ((show σ1 67 5 = nI (s.length + 1) from h2.2.1)) ?_
          refine J_iconst (v := 1) hT dX9_closes_46 rfl ?_
          refine J_isub hT dX9_closes_47 ?_
          refine J_topil ((nI_pred s.length)) ?_
          refine R_putI hT fX9_157 rfl rfl dX9_closes_48 (rk hS) ?_
          refine J_aload_n (i := 0) hT dX9_closes_51 rfl rfl ?_
          refine J_sipush (v := 30000) hT dX9_closes_52 rfl ?_
          refine J_aload_n (i := 0) hT dX9_closes_55 rfl rfl ?_
          refine R_getP hT fX9_16 rfl dX9_closes_56 (rk hS) (rp_open hS) ?_
          refine J_aload_n (i := 0) hT dX9_closes_59 rfl rfl ?_
          refine R_getI hT fX9_157 rfl dX9_closes_60 (rk hS) ?_
          refine J_topil ((zu_eq _ _ _ _)) ?_
          refine R_iald hT dX9_closes_63 (rk_open hS) (rl_open hS) (zix_nI h62 (by decide)) ?_
          refine J_topil (((zu_ne _ _ _ _ (by decide) _).trans h2.2.2.2.1.1)) ?_
          refine J_iadd hT dX9_closes_64 ?_
          refine J_topil ((nI_add 30000 d)) ?_
          refine R_callV0 (ci := 9) hY dX9_closes_65 mfX9_makes miX9_makes msX9_makes kX9_163 ⟨by decide, rfl⟩ (rk hS) (c_X9_makes hZ hS (n := mk.length) hn30.1 hm3) rfl (by decide) rfl rfl (Nat.le_of_ble_eq_true rfl) (Nat.le_refl _) (Nat.le_refl _) ?_
          refine J_goto (tgt := 0) hT dX9_closes_68 (by decide) ?_
          exact ih ((30000 + d) :: mk) _ (zpc_trans h1 p2) p1 hn30.2 ec
        · have ec := e.trans (clsF_n (fun q => hle q.2))
          refine J_aload_n (i := 0) hT dX9_closes_0 rfl rfl ?_
          refine R_getI hT fX9_157 rfl dX9_closes_1 (rk hS) ?_
          refine J_topil ((show σ1 67 5 = nI (s.length + 1) from h2.2.1)) ?_
          refine J_if_le (tgt := 71) hT dX9_closes_4 (by decide) (fun q => absurd q (Int32.not_le.mpr (nI_lt (a := 0) (b := s.length + 1) (by omega) (by omega)))) (fun _ => ?_)
          refine J_aload_n (i := 0) hT dX9_closes_7 rfl rfl ?_
          refine R_getP hT fX9_16 rfl dX9_closes_8 (rk hS) (rp_open hS) ?_
          refine J_aload_n (i := 0) hT dX9_closes_11 rfl rfl ?_
          refine R_getI hT fX9_157 rfl dX9_closes_12 (rk hS) ?_
          refine J_topil ((show σ1 67 5 = nI (s.length + 1) from h2.2.1)) ?_
          refine J_iconst (v := 1) hT dX9_closes_15 rfl ?_
          refine J_isub hT dX9_closes_16 ?_
          refine J_topil ((nI_pred s.length)) ?_
          refine R_iald hT dX9_closes_17 (rk_open hS) (rl_open hS) (zix_nI h62 (by decide)) ?_
          refine J_topil (h2.2.2.2.1.1) ?_
          refine J_bipush (v := 11) hT dX9_closes_18 rfl ?_
          refine J_icmp_eq (tgt := 71) hT dX9_closes_20 (by decide) (fun q => absurd q (fun q => e11 ((nI_eq (a := d) (b := 11) (by omega) (by decide)).mp q))) (fun _ => ?_)
          refine J_aload_n (i := 0) hT dX9_closes_23 rfl rfl ?_
          refine R_getP hT fX9_16 rfl dX9_closes_24 (rk hS) (rp_open hS) ?_
          refine J_aload_n (i := 0) hT dX9_closes_27 rfl rfl ?_
          refine R_getI hT fX9_157 rfl dX9_closes_28 (rk hS) ?_
          refine J_topil ((show σ1 67 5 = nI (s.length + 1) from h2.2.1)) ?_
          refine J_iconst (v := 1) hT dX9_closes_31 rfl ?_
          refine J_isub hT dX9_closes_32 ?_
          refine J_topil ((nI_pred s.length)) ?_
          refine R_iald hT dX9_closes_33 (rk_open hS) (rl_open hS) (zix_nI h62 (by decide)) ?_
          refine J_topil (h2.2.2.2.1.1) ?_
          refine R_callS1 hY dX9_closes_34 mfX9_rank mtX9_rank kX9_160 (c_X9_rank hZ) rfl (by decide) rfl rfl (Nat.le_of_ble_eq_true rfl) (Nat.le_refl _) (Nat.le_refl _) ?_
          refine J_topil ((rkN_eq d hd)) ?_
          refine J_iload_n (i := 1) hT dX9_closes_37 rfl rfl ?_
          refine J_icmp_lt (tgt := 71) hT dX9_closes_38 (by decide) (fun _ => ?_) (fun q => absurd (nI_lt (a := rkN d) (b := rr) (by omega) (by omega)) q)
          exact J_vret hT dX9_closes_71 rfl (fin mk (d :: s) σ1 h1 h2 ec) (Nat.le_refl _) (Nat.le_refl _)
  exact loop op0 mk0 σ (zpc_refl σ) hP hng rfl
