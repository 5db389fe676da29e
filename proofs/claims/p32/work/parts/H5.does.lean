/-! ===== a deed by a number ===== -/
def txS (v : Nat) : zS2 := fun b j => if b = 68 then (dTx v).getD j 0 else 0
/-- the tokens of the text that a number says -/
def dKs (v : Nat) : List Nat := (rdK (rdF (txS v) (dTx v).length)).1
def txQ (k o t s : Nat) : Bool := decide ((dTl k o t s).length ≤ 30) && decide (fltI (rdF (fun b j => if b = 68 then (dTl k o t s).getD j 0 else 0) (dTl k o t s).length) (dTl k o t s).length = -1)
theorem tx_all : ∀ k, k < 5 → ∀ o, o < 5 → ∀ t, t < 5 → ∀ s, s < 3 → txQ k o t s = true := by decide +kernel
theorem tx_ok (v : Nat) : (dTx v).length ≤ 30 ∧ fltI (rdF (txS v) (dTx v).length) (dTx v).length = -1 := by
  have h := tx_all (v % 5) (by omega) (v / 5 % 5) (by omega) (v / 25 % 5) (by omega) (v / 125 % 3) (by omega)
  unfold txQ at h
  rw [Bool.and_eq_true, decide_eq_true_eq, decide_eq_true_eq] at h
  exact h
theorem tx_rd {S : zS2} {v : Nat} (h : ∀ j, j < (dTx v).length → S 68 j = (dTx v).getD j 0) : rdF S (dTx v).length = rdF (txS v) (dTx v).length := rdF_cg (fun j hj => (h j hj).trans (if_pos rfl).symm)
def dD (Y : Nat) : Int32 × Int32 × Int32 × Int32 × List Nat :=
  if Y % 12 < 3 then (0, nI (Y / 12 % 6), 0, 0, dKs (Y / 12 / 5))
  else if Y % 12 = 3 then (1, nI (Y / 12 % 6), nI (Y / 12 / 5 % 9) - 3, 0, [])
  else if Y % 12 = 4 then (2, nI (Y / 12 % 6), 0, 0, [])
  else if Y % 12 = 5 then (3, nI (Y / 12 % 5), nI (Y / 12 / 5 % 7) - 3, 0, [])
  else if Y % 12 = 6 then (4, nI (Y / 12 % 5), nI (Y / 12 / 5 % 7) - 1, 0, [])
  else if Y % 12 = 7 then (5, nI (Y / 12 % 5), nI (Y / 12 / 5 % 7) - 1, 0, [])
  else if Y % 12 = 8 then (6, nI (Y / 12 % 5), nI (Y / 12 / 5 % 60), nI (Y / 12 / 5 / 60 % 5), [])
  else if Y % 12 = 9 then (7, nI (Y / 12 % 5), nI ((Y / 12 % 5 + 1 + Y / 12 / 5 % 4) % 5), if Y / 12 / 5 / 4 % 3 = 0 then 0 else 1, [])
  else if Y % 12 = 10 then (8, nI (Y / 12 % 5), nI (Y / 12 / 5 % 30) - 1, 0, [])
  else if Y / 12 / 5 % 4 = 0 then (9, nI (Y / 12 % 5), 0, 0, [])
  else (10, nI (1 + Y / 12 / 5 % 15), 0, 0, [])
def dRf (Y n : Nat) (S : zS2) : Prop :=
  if Y % 12 < 3 then (bt (belF S false (pkm (dKs (Y / 12 / 5)))) (Y / 12 % 6) = true ∨ ¬ n < 40)
  else if Y % 12 = 4 then (S 80 (Y / 12 % 6) = 0 ∨ ¬ n < 40)
  else if Y % 12 = 11 then (if Y / 12 / 5 % 4 = 0 then (S 92 (Y / 12 % 5) ≠ 3 ∨ ¬ n < 40) else (¬ (S 67 34 + nI (1 + Y / 12 / 5 % 15) ≤ 2000) ∨ ¬ n < 40))
  else ¬ n < 40
theorem dRf_q {m : Nat} {S T : zS2} (q : zq m S T) (Y n : Nat) : dRf Y n S ↔ dRf Y n T := by
  unfold dRf
  rw [belF_q q, q.eq 80 (by decide), q.eq 92 (by decide), q.now]
def DP (Y n : Nat) (S : zS2) : zMem → zS2 → zP2 → zG2 → Int32 → zMem → Prop := DQ n S (dD Y).1 (dD Y).2.1 (dD Y).2.2.1 (dD Y).2.2.2.1 (dD Y).2.2.2.2 (dRf Y n S)
theorem rg9 : ∀ a, a < 9 → ((-1000 : Int32) ≤ nI a - 3 ∧ nI a - 3 ≤ 1000) := by decide +kernel
theorem rg30 : ∀ a, a < 30 → a ≠ 0 → ((0 : Int32) ≤ nI a - 1 ∧ nI a - 1 ≤ 1000) := by decide +kernel
theorem okC7 {a : Nat} (h : a < 7) : okC (nI a - 1) := by
  by_cases q : a = 0
  · subst q; exact Or.inl (by decide)
  · exact Or.inr ⟨a - 1, by omega, nI_sub (a := a) (b := 1) (by omega)⟩
theorem md {a b c : Nat} (hb : 0 < b) (h : b ≤ c) : a % b < c := Nat.lt_of_lt_of_le (Nat.mod_lt a hb) h
set_option maxRecDepth 100000 in
set_option maxHeartbeats 4000000 in
theorem c_L_does {l : Launch} {Z : zZ} (hZ : zSt l Z) (hO : zOps Z) (hX : zXs Z) (hN : zNs Z) (hSs : zSs Z) {μ : zMem} {σ : zS2} {π : zP2} {g : zG2} {n L Y : Nat} {S : zS2} (h : PW n L μ σ π S) (hx : Y < 2147483648) : zCt l Z mL_does 175 3 38 [.ref 0, .int (nI Y)] (zA4 μ σ π g) (fun v μ' => ∃ x, v = some (.int x) ∧ DP Y n S μ σ π g x μ') := by
  refine zCt_of hZ mpL_does (Nat.le_of_ble_eq_true rfl) (L := [some (.ref 0), some (.int (nI Y)), none, none, none, none]) rfl (fun τ hY => ?_)
  have hT := hY.1
  have hz : Y / 12 < 2147483648 := Nat.lt_of_le_of_lt (Nat.div_le_self _ _) hx
  have hv : Y / 12 / 5 < 2147483648 := Nat.lt_of_le_of_lt (Nat.div_le_self _ _) hz
  have h12 : Y % 12 = 0 ∨ Y % 12 = 1 ∨ Y % 12 = 2 ∨ Y % 12 = 3 ∨ Y % 12 = 4 ∨ Y % 12 = 5 ∨ Y % 12 = 6 ∨ Y % 12 = 7 ∨ Y % 12 = 8 ∨ Y % 12 = 9 ∨ Y % 12 = 10 ∨ Y % 12 = 11 := by omega
  rcases h12 with hk | hk | hk | hk | hk | hk | hk | hk | hk | hk | hk | hk
  · have eD : dD Y = (0, nI (Y / 12 % 6), 0, 0, dKs (Y / 12 / 5)) := by simp [dD, hk]
    have eR : dRf Y n S = (bt (belF S false (pkm (dKs (Y / 12 / 5)))) (Y / 12 % 6) = true ∨ ¬ n < 40) := by simp [dRf, hk]
    refine J_iload_n (i := 1) hT dL_does_0 rfl rfl ?_
    refine J_bipush (v := 12) hT dL_does_1 rfl ?_
    refine J_irem (d := 12) hT dL_does_3 rfl rfl hx (by decide) (by decide) ?_
    refine J_topil ((by rw [hk] : _ = nI 0)) ?_
    refine S_istore2 hT dL_does_4 rfl rfl ?_
    refine J_iload_n (i := 1) hT dL_does_5 rfl rfl ?_
    refine J_bipush (v := 12) hT dL_does_6 rfl ?_
    refine J_idiv (d := 12) hT dL_does_8 rfl rfl hx (by decide) (by decide) ?_
    refine S_istore3 hT dL_does_9 rfl rfl ?_
    refine J_iload_n (i := 3) hT dL_does_10 rfl rfl ?_
    refine J_iconst (v := 5) hT dL_does_11 rfl ?_
    refine J_irem (d := 5) hT dL_does_12 rfl rfl hz (by decide) (by decide) ?_
    refine S_istore4 hT dL_does_13 rfl ?_
    refine J_iload_n (i := 3) hT dL_does_15 rfl rfl ?_
    refine J_iconst (v := 5) hT dL_does_16 rfl ?_
    refine J_idiv (d := 5) hT dL_does_17 rfl rfl hz (by decide) (by decide) ?_
    refine S_istore5 hT dL_does_18 rfl ?_
    refine J_iload_n (i := 2) hT dL_does_20 rfl rfl ?_
    refine J_iconst (v := 3) hT dL_does_21 rfl ?_
    refine J_icmp_ge (tgt := 48) hT dL_does_22 (by decide) (fun q => absurd q ((by decide))) (fun _ => ?_)
    refine J_aload_n (i := 0) hT dL_does_25 rfl rfl ?_
    refine J_iload (i := 5) hT dL_does_26 rfl ?_
    refine J_callS hY dL_does_28 mfL_says mtL_says kL_145 (c_L_says hZ hSs h hv) rfl (by decide) rfl rfl (Nat.le_of_ble_eq_true rfl) (by decide) (by decide) (fun r1 μ1 hq => ?_)
    obtain ⟨rfl, σ1, S1, rfl, hP1, hF1, hz1⟩ := hq
    have hrd := tx_rd (S := S1) (v := Y / 12 / 5) hF1.2
    have hf : fltI (rdF S1 (dTx (Y / 12 / 5)).length) (dTx (Y / 12 / 5)).length = -1 := by rw [hrd]; exact (tx_ok _).2
    have hks : dKs (Y / 12 / 5) = (rdK (rdF S1 (dTx (Y / 12 / 5)).length)).1 := by rw [hrd]; rfl
    show zJ _ _ _ _ (.int 1 :: _) _ _ _
    refine J_if_eq (tgt := 45) hT dL_does_31 (by decide) (fun q => absurd q ((by decide))) (fun _ => ?_)
    refine J_aload_n (i := 0) hT dL_does_34 rfl rfl ?_
    refine J_iload_n (i := 3) hT dL_does_35 rfl rfl ?_
    refine J_bipush (v := 6) hT dL_does_36 rfl ?_
    refine J_irem (d := 6) hT dL_does_38 rfl rfl hz (by decide) (by decide) ?_
    refine J_callW hY dL_does_39 mfL_formula mtL_formula mwL_112 (l_formula hZ hO hX hN hP1 (md (by decide) (by decide)) hf hks) rfl (by decide) rfl rfl (Nat.le_of_ble_eq_true rfl) (by decide) (by decide) (fun r1 μ1 hq => ?_)
    obtain ⟨x, rfl, n2, L2, μ2, σ2, π2, g2, S2, e2, hP2, hg2, hc2, hd2⟩ := hq
    have q1 : zq n S S1 := hF1.q
    have hd3 := hd2.from q1 (r1 := (bt (belF S false (pkm (dKs (Y / 12 / 5)))) (Y / 12 % 6) = true ∨ ¬ n < 40)) (by rw [belF_q q1])
    have hq : DQ n S 0 (nI (Y / 12 % 6)) 0 0 (dKs (Y / 12 / 5)) (bt (belF S false (pkm (dKs (Y / 12 / 5)))) (Y / 12 % 6) = true ∨ ¬ n < 40) μ σ π g x μ1 := ⟨n2, L2, μ2, σ2, π2, g2, S2, e2, hP2, hg2, hz1.cl.tr hc2, hd3⟩
    show zJ _ _ _ _ (.int x :: _) _ _ _
    refine J_goto (tgt := 47) hT dL_does_42 (by decide) ?_
    exact J_iret hT dL_does_47 rfl rfl (⟨x, rfl, by unfold DP; rw [eD, eR]; exact hq⟩) (by decide) (by decide)
  · have eD : dD Y = (0, nI (Y / 12 % 6), 0, 0, dKs (Y / 12 / 5)) := by simp [dD, hk]
    have eR : dRf Y n S = (bt (belF S false (pkm (dKs (Y / 12 / 5)))) (Y / 12 % 6) = true ∨ ¬ n < 40) := by simp [dRf, hk]
    refine J_iload_n (i := 1) hT dL_does_0 rfl rfl ?_
    refine J_bipush (v := 12) hT dL_does_1 rfl ?_
    refine J_irem (d := 12) hT dL_does_3 rfl rfl hx (by decide) (by decide) ?_
    refine J_topil ((by rw [hk] : _ = nI 1)) ?_
    refine S_istore2 hT dL_does_4 rfl rfl ?_
    refine J_iload_n (i := 1) hT dL_does_5 rfl rfl ?_
    refine J_bipush (v := 12) hT dL_does_6 rfl ?_
    refine J_idiv (d := 12) hT dL_does_8 rfl rfl hx (by decide) (by decide) ?_
    refine S_istore3 hT dL_does_9 rfl rfl ?_
    refine J_iload_n (i := 3) hT dL_does_10 rfl rfl ?_
    refine J_iconst (v := 5) hT dL_does_11 rfl ?_
    refine J_irem (d := 5) hT dL_does_12 rfl rfl hz (by decide) (by decide) ?_
    refine S_istore4 hT dL_does_13 rfl ?_
    refine J_iload_n (i := 3) hT dL_does_15 rfl rfl ?_
    refine J_iconst (v := 5) hT dL_does_16 rfl ?_
    refine J_idiv (d := 5) hT dL_does_17 rfl rfl hz (by decide) (by decide) ?_
    refine S_istore5 hT dL_does_18 rfl ?_
    refine J_iload_n (i := 2) hT dL_does_20 rfl rfl ?_
    refine J_iconst (v := 3) hT dL_does_21 rfl ?_
    refine J_icmp_ge (tgt := 48) hT dL_does_22 (by decide) (fun q => absurd q ((by decide))) (fun _ => ?_)
    refine J_aload_n (i := 0) hT dL_does_25 rfl rfl ?_
    refine J_iload (i := 5) hT dL_does_26 rfl ?_
    refine J_callS hY dL_does_28 mfL_says mtL_says kL_145 (c_L_says hZ hSs h hv) rfl (by decide) rfl rfl (Nat.le_of_ble_eq_true rfl) (by decide) (by decide) (fun r1 μ1 hq => ?_)
    obtain ⟨rfl, σ1, S1, rfl, hP1, hF1, hz1⟩ := hq
    have hrd := tx_rd (S := S1) (v := Y / 12 / 5) hF1.2
    have hf : fltI (rdF S1 (dTx (Y / 12 / 5)).length) (dTx (Y / 12 / 5)).length = -1 := by rw [hrd]; exact (tx_ok _).2
    have hks : dKs (Y / 12 / 5) = (rdK (rdF S1 (dTx (Y / 12 / 5)).length)).1 := by rw [hrd]; rfl
    show zJ _ _ _ _ (.int 1 :: _) _ _ _
    refine J_if_eq (tgt := 45) hT dL_does_31 (by decide) (fun q => absurd q ((by decide))) (fun _ => ?_)
    refine J_aload_n (i := 0) hT dL_does_34 rfl rfl ?_
    refine J_iload_n (i := 3) hT dL_does_35 rfl rfl ?_
    refine J_bipush (v := 6) hT dL_does_36 rfl ?_
    refine J_irem (d := 6) hT dL_does_38 rfl rfl hz (by decide) (by decide) ?_
    refine J_callW hY dL_does_39 mfL_formula mtL_formula mwL_112 (l_formula hZ hO hX hN hP1 (md (by decide) (by decide)) hf hks) rfl (by decide) rfl rfl (Nat.le_of_ble_eq_true rfl) (by decide) (by decide) (fun r1 μ1 hq => ?_)
    obtain ⟨x, rfl, n2, L2, μ2, σ2, π2, g2, S2, e2, hP2, hg2, hc2, hd2⟩ := hq
    have q1 : zq n S S1 := hF1.q
    have hd3 := hd2.from q1 (r1 := (bt (belF S false (pkm (dKs (Y / 12 / 5)))) (Y / 12 % 6) = true ∨ ¬ n < 40)) (by rw [belF_q q1])
    have hq : DQ n S 0 (nI (Y / 12 % 6)) 0 0 (dKs (Y / 12 / 5)) (bt (belF S false (pkm (dKs (Y / 12 / 5)))) (Y / 12 % 6) = true ∨ ¬ n < 40) μ σ π g x μ1 := ⟨n2, L2, μ2, σ2, π2, g2, S2, e2, hP2, hg2, hz1.cl.tr hc2, hd3⟩
    show zJ _ _ _ _ (.int x :: _) _ _ _
    refine J_goto (tgt := 47) hT dL_does_42 (by decide) ?_
    exact J_iret hT dL_does_47 rfl rfl (⟨x, rfl, by unfold DP; rw [eD, eR]; exact hq⟩) (by decide) (by decide)
  · have eD : dD Y = (0, nI (Y / 12 % 6), 0, 0, dKs (Y / 12 / 5)) := by simp [dD, hk]
    have eR : dRf Y n S = (bt (belF S false (pkm (dKs (Y / 12 / 5)))) (Y / 12 % 6) = true ∨ ¬ n < 40) := by simp [dRf, hk]
    refine J_iload_n (i := 1) hT dL_does_0 rfl rfl ?_
    refine J_bipush (v := 12) hT dL_does_1 rfl ?_
    refine J_irem (d := 12) hT dL_does_3 rfl rfl hx (by decide) (by decide) ?_
    refine J_topil ((by rw [hk] : _ = nI 2)) ?_
    refine S_istore2 hT dL_does_4 rfl rfl ?_
    refine J_iload_n (i := 1) hT dL_does_5 rfl rfl ?_
    refine J_bipush (v := 12) hT dL_does_6 rfl ?_
    refine J_idiv (d := 12) hT dL_does_8 rfl rfl hx (by decide) (by decide) ?_
    refine S_istore3 hT dL_does_9 rfl rfl ?_
    refine J_iload_n (i := 3) hT dL_does_10 rfl rfl ?_
    refine J_iconst (v := 5) hT dL_does_11 rfl ?_
    refine J_irem (d := 5) hT dL_does_12 rfl rfl hz (by decide) (by decide) ?_
    refine S_istore4 hT dL_does_13 rfl ?_
    refine J_iload_n (i := 3) hT dL_does_15 rfl rfl ?_
    refine J_iconst (v := 5) hT dL_does_16 rfl ?_
    refine J_idiv (d := 5) hT dL_does_17 rfl rfl hz (by decide) (by decide) ?_
    refine S_istore5 hT dL_does_18 rfl ?_
    refine J_iload_n (i := 2) hT dL_does_20 rfl rfl ?_
    refine J_iconst (v := 3) hT dL_does_21 rfl ?_
    refine J_icmp_ge (tgt := 48) hT dL_does_22 (by decide) (fun q => absurd q ((by decide))) (fun _ => ?_)
    refine J_aload_n (i := 0) hT dL_does_25 rfl rfl ?_
    refine J_iload (i := 5) hT dL_does_26 rfl ?_
    refine J_callS hY dL_does_28 mfL_says mtL_says kL_145 (c_L_says hZ hSs h hv) rfl (by decide) rfl rfl (Nat.le_of_ble_eq_true rfl) (by decide) (by decide) (fun r1 μ1 hq => ?_)
    obtain ⟨rfl, σ1, S1, rfl, hP1, hF1, hz1⟩ := hq
    have hrd := tx_rd (S := S1) (v := Y / 12 / 5) hF1.2
    have hf : fltI (rdF S1 (dTx (Y / 12 / 5)).length) (dTx (Y / 12 / 5)).length = -1 := by rw [hrd]; exact (tx_ok _).2
    have hks : dKs (Y / 12 / 5) = (rdK (rdF S1 (dTx (Y / 12 / 5)).length)).1 := by rw [hrd]; rfl
    show zJ _ _ _ _ (.int 1 :: _) _ _ _
    refine J_if_eq (tgt := 45) hT dL_does_31 (by decide) (fun q => absurd q ((by decide))) (fun _ => ?_)
    refine J_aload_n (i := 0) hT dL_does_34 rfl rfl ?_
    refine J_iload_n (i := 3) hT dL_does_35 rfl rfl ?_
    refine J_bipush (v := 6) hT dL_does_36 rfl ?_
    refine J_irem (d := 6) hT dL_does_38 rfl rfl hz (by decide) (by decide) ?_
    refine J_callW hY dL_does_39 mfL_formula mtL_formula mwL_112 (l_formula hZ hO hX hN hP1 (md (by decide) (by decide)) hf hks) rfl (by decide) rfl rfl (Nat.le_of_ble_eq_true rfl) (by decide) (by decide) (fun r1 μ1 hq => ?_)
    obtain ⟨x, rfl, n2, L2, μ2, σ2, π2, g2, S2, e2, hP2, hg2, hc2, hd2⟩ := hq
    have q1 : zq n S S1 := hF1.q
    have hd3 := hd2.from q1 (r1 := (bt (belF S false (pkm (dKs (Y / 12 / 5)))) (Y / 12 % 6) = true ∨ ¬ n < 40)) (by rw [belF_q q1])
    have hq : DQ n S 0 (nI (Y / 12 % 6)) 0 0 (dKs (Y / 12 / 5)) (bt (belF S false (pkm (dKs (Y / 12 / 5)))) (Y / 12 % 6) = true ∨ ¬ n < 40) μ σ π g x μ1 := ⟨n2, L2, μ2, σ2, π2, g2, S2, e2, hP2, hg2, hz1.cl.tr hc2, hd3⟩
    show zJ _ _ _ _ (.int x :: _) _ _ _
    refine J_goto (tgt := 47) hT dL_does_42 (by decide) ?_
    exact J_iret hT dL_does_47 rfl rfl (⟨x, rfl, by unfold DP; rw [eD, eR]; exact hq⟩) (by decide) (by decide)
  · have eD : dD Y = (1, nI (Y / 12 % 6), nI (Y / 12 / 5 % 9) - 3, 0, []) := by simp [dD, hk]
    have eR : dRf Y n S = (¬ n < 40) := by simp [dRf, hk]
    refine J_iload_n (i := 1) hT dL_does_0 rfl rfl ?_
    refine J_bipush (v := 12) hT dL_does_1 rfl ?_
    refine J_irem (d := 12) hT dL_does_3 rfl rfl hx (by decide) (by decide) ?_
    refine J_topil ((by rw [hk] : _ = nI 3)) ?_
    refine S_istore2 hT dL_does_4 rfl rfl ?_
    refine J_iload_n (i := 1) hT dL_does_5 rfl rfl ?_
    refine J_bipush (v := 12) hT dL_does_6 rfl ?_
    refine J_idiv (d := 12) hT dL_does_8 rfl rfl hx (by decide) (by decide) ?_
    refine S_istore3 hT dL_does_9 rfl rfl ?_
    refine J_iload_n (i := 3) hT dL_does_10 rfl rfl ?_
    refine J_iconst (v := 5) hT dL_does_11 rfl ?_
    refine J_irem (d := 5) hT dL_does_12 rfl rfl hz (by decide) (by decide) ?_
    refine S_istore4 hT dL_does_13 rfl ?_
    refine J_iload_n (i := 3) hT dL_does_15 rfl rfl ?_
    refine J_iconst (v := 5) hT dL_does_16 rfl ?_
    refine J_idiv (d := 5) hT dL_does_17 rfl rfl hz (by decide) (by decide) ?_
    refine S_istore5 hT dL_does_18 rfl ?_
    refine J_iload_n (i := 2) hT dL_does_20 rfl rfl ?_
    refine J_iconst (v := 3) hT dL_does_21 rfl ?_
    refine J_icmp_ge (tgt := 48) hT dL_does_22 (by decide) (fun _ => ?_) (fun q => absurd ((by decide)) q)
    refine J_iload_n (i := 2) hT dL_does_48 rfl rfl ?_
    refine J_bipush (v := 7) hT dL_does_49 rfl ?_
    refine J_icmp_ge (tgt := 128) hT dL_does_51 (by decide) (fun q => absurd q ((by decide))) (fun _ => ?_)
    refine J_iload_n (i := 2) hT dL_does_54 rfl rfl ?_
    refine J_iconst (v := 3) hT dL_does_55 rfl ?_
    refine J_icmp_ne (tgt := 77) hT dL_does_56 (by decide) (fun q => absurd ((by decide)) q) (fun _ => ?_)
    refine J_aload_n (i := 0) hT dL_does_59 rfl rfl ?_
    refine J_iload_n (i := 3) hT dL_does_60 rfl rfl ?_
    refine J_bipush (v := 6) hT dL_does_61 rfl ?_
    refine J_irem (d := 6) hT dL_does_63 rfl rfl hz (by decide) (by decide) ?_
    refine J_iload (i := 5) hT dL_does_64 rfl ?_
    refine J_bipush (v := 9) hT dL_does_66 rfl ?_
    refine J_irem (d := 9) hT dL_does_68 rfl rfl hv (by decide) (by decide) ?_
    refine J_iconst (v := 3) hT dL_does_69 rfl ?_
    refine J_isub hT dL_does_70 ?_
    refine J_callW hY dL_does_71 mfL_hold mtL_hold mwL_149 (l_hold hZ hO hX hN h (md (by decide) (by decide)) (rg9 _ (md (by decide) (by decide)))) rfl (by decide) rfl rfl (Nat.le_of_ble_eq_true rfl) (by decide) (by decide) (fun r1 μ1 hq => ?_)
    obtain ⟨x, rfl, hq⟩ := hq
    show zJ _ _ _ _ (.int x :: _) _ _ _
    refine J_goto (tgt := 127) hT dL_does_74 (by decide) ?_
    exact J_iret hT dL_does_127 rfl rfl (⟨x, rfl, by unfold DP; rw [eD, eR]; exact hq⟩) (by decide) (by decide)
  · have eD : dD Y = (2, nI (Y / 12 % 6), 0, 0, []) := by simp [dD, hk]
    have eR : dRf Y n S = (S 80 (Y / 12 % 6) = 0 ∨ ¬ n < 40) := by simp [dRf, hk]
    refine J_iload_n (i := 1) hT dL_does_0 rfl rfl ?_
    refine J_bipush (v := 12) hT dL_does_1 rfl ?_
    refine J_irem (d := 12) hT dL_does_3 rfl rfl hx (by decide) (by decide) ?_
    refine J_topil ((by rw [hk] : _ = nI 4)) ?_
    refine S_istore2 hT dL_does_4 rfl rfl ?_
    refine J_iload_n (i := 1) hT dL_does_5 rfl rfl ?_
    refine J_bipush (v := 12) hT dL_does_6 rfl ?_
    refine J_idiv (d := 12) hT dL_does_8 rfl rfl hx (by decide) (by decide) ?_
    refine S_istore3 hT dL_does_9 rfl rfl ?_
    refine J_iload_n (i := 3) hT dL_does_10 rfl rfl ?_
    refine J_iconst (v := 5) hT dL_does_11 rfl ?_
    refine J_irem (d := 5) hT dL_does_12 rfl rfl hz (by decide) (by decide) ?_
    refine S_istore4 hT dL_does_13 rfl ?_
    refine J_iload_n (i := 3) hT dL_does_15 rfl rfl ?_
    refine J_iconst (v := 5) hT dL_does_16 rfl ?_
    refine J_idiv (d := 5) hT dL_does_17 rfl rfl hz (by decide) (by decide) ?_
    refine S_istore5 hT dL_does_18 rfl ?_
    refine J_iload_n (i := 2) hT dL_does_20 rfl rfl ?_
    refine J_iconst (v := 3) hT dL_does_21 rfl ?_
    refine J_icmp_ge (tgt := 48) hT dL_does_22 (by decide) (fun _ => ?_) (fun q => absurd ((by decide)) q)
    refine J_iload_n (i := 2) hT dL_does_48 rfl rfl ?_
    refine J_bipush (v := 7) hT dL_does_49 rfl ?_
    refine J_icmp_ge (tgt := 128) hT dL_does_51 (by decide) (fun q => absurd q ((by decide))) (fun _ => ?_)
    refine J_iload_n (i := 2) hT dL_does_54 rfl rfl ?_
    refine J_iconst (v := 3) hT dL_does_55 rfl ?_
    refine J_icmp_ne (tgt := 77) hT dL_does_56 (by decide) (fun _ => ?_) (fun q => absurd q ((by decide)))
    refine J_iload_n (i := 2) hT dL_does_77 rfl rfl ?_
    refine J_iconst (v := 4) hT dL_does_78 rfl ?_
    refine J_icmp_ne (tgt := 93) hT dL_does_79 (by decide) (fun q => absurd ((by decide)) q) (fun _ => ?_)
    refine J_aload_n (i := 0) hT dL_does_82 rfl rfl ?_
    refine J_iload_n (i := 3) hT dL_does_83 rfl rfl ?_
    refine J_bipush (v := 6) hT dL_does_84 rfl ?_
    refine J_irem (d := 6) hT dL_does_86 rfl rfl hz (by decide) (by decide) ?_
    refine J_callW hY dL_does_87 mfL_release mtL_release mwL_152 (l_release hZ hO hX hN h (md (by decide) (by decide))) rfl (by decide) rfl rfl (Nat.le_of_ble_eq_true rfl) (by decide) (by decide) (fun r1 μ1 hq => ?_)
    obtain ⟨x, rfl, hq⟩ := hq
    show zJ _ _ _ _ (.int x :: _) _ _ _
    refine J_goto (tgt := 127) hT dL_does_90 (by decide) ?_
    exact J_iret hT dL_does_127 rfl rfl (⟨x, rfl, by unfold DP; rw [eD, eR]; exact hq⟩) (by decide) (by decide)
  · have eD : dD Y = (3, nI (Y / 12 % 5), nI (Y / 12 / 5 % 7) - 3, 0, []) := by simp [dD, hk]
    have eR : dRf Y n S = (¬ n < 40) := by simp [dRf, hk]
    refine J_iload_n (i := 1) hT dL_does_0 rfl rfl ?_
    refine J_bipush (v := 12) hT dL_does_1 rfl ?_
    refine J_irem (d := 12) hT dL_does_3 rfl rfl hx (by decide) (by decide) ?_
    refine J_topil ((by rw [hk] : _ = nI 5)) ?_
    refine S_istore2 hT dL_does_4 rfl rfl ?_
    refine J_iload_n (i := 1) hT dL_does_5 rfl rfl ?_
    refine J_bipush (v := 12) hT dL_does_6 rfl ?_
    refine J_idiv (d := 12) hT dL_does_8 rfl rfl hx (by decide) (by decide) ?_
    refine S_istore3 hT dL_does_9 rfl rfl ?_
    refine J_iload_n (i := 3) hT dL_does_10 rfl rfl ?_
    refine J_iconst (v := 5) hT dL_does_11 rfl ?_
    refine J_irem (d := 5) hT dL_does_12 rfl rfl hz (by decide) (by decide) ?_
    refine S_istore4 hT dL_does_13 rfl ?_
    refine J_iload_n (i := 3) hT dL_does_15 rfl rfl ?_
    refine J_iconst (v := 5) hT dL_does_16 rfl ?_
    refine J_idiv (d := 5) hT dL_does_17 rfl rfl hz (by decide) (by decide) ?_
    refine S_istore5 hT dL_does_18 rfl ?_
    refine J_iload_n (i := 2) hT dL_does_20 rfl rfl ?_
    refine J_iconst (v := 3) hT dL_does_21 rfl ?_
    refine J_icmp_ge (tgt := 48) hT dL_does_22 (by decide) (fun _ => ?_) (fun q => absurd ((by decide)) q)
    refine J_iload_n (i := 2) hT dL_does_48 rfl rfl ?_
    refine J_bipush (v := 7) hT dL_does_49 rfl ?_
    refine J_icmp_ge (tgt := 128) hT dL_does_51 (by decide) (fun q => absurd q ((by decide))) (fun _ => ?_)
    refine J_iload_n (i := 2) hT dL_does_54 rfl rfl ?_
    refine J_iconst (v := 3) hT dL_does_55 rfl ?_
    refine J_icmp_ne (tgt := 77) hT dL_does_56 (by decide) (fun _ => ?_) (fun q => absurd q ((by decide)))
    refine J_iload_n (i := 2) hT dL_does_77 rfl rfl ?_
    refine J_iconst (v := 4) hT dL_does_78 rfl ?_
    refine J_icmp_ne (tgt := 93) hT dL_does_79 (by decide) (fun _ => ?_) (fun q => absurd q ((by decide)))
    refine J_iload_n (i := 2) hT dL_does_93 rfl rfl ?_
    refine J_iconst (v := 5) hT dL_does_94 rfl ?_
    refine J_icmp_ne (tgt := 114) hT dL_does_95 (by decide) (fun q => absurd ((by decide)) q) (fun _ => ?_)
    refine J_aload_n (i := 0) hT dL_does_98 rfl rfl ?_
    refine J_iload (i := 4) hT dL_does_99 rfl ?_
    refine J_iload (i := 5) hT dL_does_101 rfl ?_
    refine J_bipush (v := 7) hT dL_does_103 rfl ?_
    refine J_irem (d := 7) hT dL_does_105 rfl rfl hv (by decide) (by decide) ?_
    refine J_iconst (v := 3) hT dL_does_106 rfl ?_
    refine J_isub hT dL_does_107 ?_
    refine J_callW hY dL_does_108 mfL_read mtL_read mwL_154 (l_read hZ hO hX hN h (md (by decide) (by decide)) (rg9 _ (md (by decide) (by decide)))) rfl (by decide) rfl rfl (Nat.le_of_ble_eq_true rfl) (by decide) (by decide) (fun r1 μ1 hq => ?_)
    obtain ⟨x, rfl, hq⟩ := hq
    show zJ _ _ _ _ (.int x :: _) _ _ _
    refine J_goto (tgt := 127) hT dL_does_111 (by decide) ?_
    exact J_iret hT dL_does_127 rfl rfl (⟨x, rfl, by unfold DP; rw [eD, eR]; exact hq⟩) (by decide) (by decide)
  · have eD : dD Y = (4, nI (Y / 12 % 5), nI (Y / 12 / 5 % 7) - 1, 0, []) := by simp [dD, hk]
    have eR : dRf Y n S = (¬ n < 40) := by simp [dRf, hk]
    refine J_iload_n (i := 1) hT dL_does_0 rfl rfl ?_
    refine J_bipush (v := 12) hT dL_does_1 rfl ?_
    refine J_irem (d := 12) hT dL_does_3 rfl rfl hx (by decide) (by decide) ?_
    refine J_topil ((by rw [hk] : _ = nI 6)) ?_
    refine S_istore2 hT dL_does_4 rfl rfl ?_
    refine J_iload_n (i := 1) hT dL_does_5 rfl rfl ?_
    refine J_bipush (v := 12) hT dL_does_6 rfl ?_
    refine J_idiv (d := 12) hT dL_does_8 rfl rfl hx (by decide) (by decide) ?_
    refine S_istore3 hT dL_does_9 rfl rfl ?_
    refine J_iload_n (i := 3) hT dL_does_10 rfl rfl ?_
    refine J_iconst (v := 5) hT dL_does_11 rfl ?_
    refine J_irem (d := 5) hT dL_does_12 rfl rfl hz (by decide) (by decide) ?_
    refine S_istore4 hT dL_does_13 rfl ?_
    refine J_iload_n (i := 3) hT dL_does_15 rfl rfl ?_
    refine J_iconst (v := 5) hT dL_does_16 rfl ?_
    refine J_idiv (d := 5) hT dL_does_17 rfl rfl hz (by decide) (by decide) ?_
    refine S_istore5 hT dL_does_18 rfl ?_
    refine J_iload_n (i := 2) hT dL_does_20 rfl rfl ?_
    refine J_iconst (v := 3) hT dL_does_21 rfl ?_
    refine J_icmp_ge (tgt := 48) hT dL_does_22 (by decide) (fun _ => ?_) (fun q => absurd ((by decide)) q)
    refine J_iload_n (i := 2) hT dL_does_48 rfl rfl ?_
    refine J_bipush (v := 7) hT dL_does_49 rfl ?_
    refine J_icmp_ge (tgt := 128) hT dL_does_51 (by decide) (fun q => absurd q ((by decide))) (fun _ => ?_)
    refine J_iload_n (i := 2) hT dL_does_54 rfl rfl ?_
    refine J_iconst (v := 3) hT dL_does_55 rfl ?_
    refine J_icmp_ne (tgt := 77) hT dL_does_56 (by decide) (fun _ => ?_) (fun q => absurd q ((by decide)))
    refine J_iload_n (i := 2) hT dL_does_77 rfl rfl ?_
    refine J_iconst (v := 4) hT dL_does_78 rfl ?_
    refine J_icmp_ne (tgt := 93) hT dL_does_79 (by decide) (fun _ => ?_) (fun q => absurd q ((by decide)))
    refine J_iload_n (i := 2) hT dL_does_93 rfl rfl ?_
    refine J_iconst (v := 5) hT dL_does_94 rfl ?_
    refine J_icmp_ne (tgt := 114) hT dL_does_95 (by decide) (fun _ => ?_) (fun q => absurd q ((by decide)))
    refine J_aload_n (i := 0) hT dL_does_114 rfl rfl ?_
    refine J_iload (i := 4) hT dL_does_115 rfl ?_
    refine J_iload (i := 5) hT dL_does_117 rfl ?_
    refine J_bipush (v := 7) hT dL_does_119 rfl ?_
    refine J_irem (d := 7) hT dL_does_121 rfl rfl hv (by decide) (by decide) ?_
    refine J_iconst (v := 1) hT dL_does_122 rfl ?_
    refine J_isub hT dL_does_123 ?_
    refine J_callW hY dL_does_124 mfL_control mtL_control mwL_156 (l_control hZ hO hX hN h (md (by decide) (by decide)) (okC7 (md (by decide) (by decide)))) rfl (by decide) rfl rfl (Nat.le_of_ble_eq_true rfl) (by decide) (by decide) (fun r1 μ1 hq => ?_)
    obtain ⟨x, rfl, hq⟩ := hq
    show zJ _ _ _ _ (.int x :: _) _ _ _
    exact J_iret hT dL_does_127 rfl rfl (⟨x, rfl, by unfold DP; rw [eD, eR]; exact hq⟩) (by decide) (by decide)
  · have eD : dD Y = (5, nI (Y / 12 % 5), nI (Y / 12 / 5 % 7) - 1, 0, []) := by simp [dD, hk]
    have eR : dRf Y n S = (¬ n < 40) := by simp [dRf, hk]
    refine J_iload_n (i := 1) hT dL_does_0 rfl rfl ?_
    refine J_bipush (v := 12) hT dL_does_1 rfl ?_
    refine J_irem (d := 12) hT dL_does_3 rfl rfl hx (by decide) (by decide) ?_
    refine J_topil ((by rw [hk] : _ = nI 7)) ?_
    refine S_istore2 hT dL_does_4 rfl rfl ?_
    refine J_iload_n (i := 1) hT dL_does_5 rfl rfl ?_
    refine J_bipush (v := 12) hT dL_does_6 rfl ?_
    refine J_idiv (d := 12) hT dL_does_8 rfl rfl hx (by decide) (by decide) ?_
    refine S_istore3 hT dL_does_9 rfl rfl ?_
    refine J_iload_n (i := 3) hT dL_does_10 rfl rfl ?_
    refine J_iconst (v := 5) hT dL_does_11 rfl ?_
    refine J_irem (d := 5) hT dL_does_12 rfl rfl hz (by decide) (by decide) ?_
    refine S_istore4 hT dL_does_13 rfl ?_
    refine J_iload_n (i := 3) hT dL_does_15 rfl rfl ?_
    refine J_iconst (v := 5) hT dL_does_16 rfl ?_
    refine J_idiv (d := 5) hT dL_does_17 rfl rfl hz (by decide) (by decide) ?_
    refine S_istore5 hT dL_does_18 rfl ?_
    refine J_iload_n (i := 2) hT dL_does_20 rfl rfl ?_
    refine J_iconst (v := 3) hT dL_does_21 rfl ?_
    refine J_icmp_ge (tgt := 48) hT dL_does_22 (by decide) (fun _ => ?_) (fun q => absurd ((by decide)) q)
    refine J_iload_n (i := 2) hT dL_does_48 rfl rfl ?_
    refine J_bipush (v := 7) hT dL_does_49 rfl ?_
    refine J_icmp_ge (tgt := 128) hT dL_does_51 (by decide) (fun _ => ?_) (fun q => absurd ((by decide)) q)
    refine J_iload_n (i := 2) hT dL_does_128 rfl rfl ?_
    refine J_bipush (v := 10) hT dL_does_129 rfl ?_
    refine J_icmp_ge (tgt := 215) hT dL_does_131 (by decide) (fun q => absurd q ((by decide))) (fun _ => ?_)
    refine J_iload_n (i := 2) hT dL_does_134 rfl rfl ?_
    refine J_bipush (v := 7) hT dL_does_135 rfl ?_
    refine J_icmp_ne (tgt := 156) hT dL_does_137 (by decide) (fun q => absurd ((by decide)) q) (fun _ => ?_)
    refine J_aload_n (i := 0) hT dL_does_140 rfl rfl ?_
    refine J_iload (i := 4) hT dL_does_141 rfl ?_
    refine J_iload (i := 5) hT dL_does_143 rfl ?_
    refine J_bipush (v := 7) hT dL_does_145 rfl ?_
    refine J_irem (d := 7) hT dL_does_147 rfl rfl hv (by decide) (by decide) ?_
    refine J_iconst (v := 1) hT dL_does_148 rfl ?_
    refine J_isub hT dL_does_149 ?_
    refine J_callW hY dL_does_150 mfL_limit mtL_limit mwL_158 (l_limit hZ hO hX hN h (md (by decide) (by decide)) (okC7 (md (by decide) (by decide)))) rfl (by decide) rfl rfl (Nat.le_of_ble_eq_true rfl) (by decide) (by decide) (fun r1 μ1 hq => ?_)
    obtain ⟨x, rfl, hq⟩ := hq
    show zJ _ _ _ _ (.int x :: _) _ _ _
    refine J_goto (tgt := 214) hT dL_does_153 (by decide) ?_
    exact J_iret hT dL_does_214 rfl rfl (⟨x, rfl, by unfold DP; rw [eD, eR]; exact hq⟩) (by decide) (by decide)
  · have eD : dD Y = (6, nI (Y / 12 % 5), nI (Y / 12 / 5 % 60), nI (Y / 12 / 5 / 60 % 5), []) := by simp [dD, hk]
    have eR : dRf Y n S = (¬ n < 40) := by simp [dRf, hk]
    refine J_iload_n (i := 1) hT dL_does_0 rfl rfl ?_
    refine J_bipush (v := 12) hT dL_does_1 rfl ?_
    refine J_irem (d := 12) hT dL_does_3 rfl rfl hx (by decide) (by decide) ?_
    refine J_topil ((by rw [hk] : _ = nI 8)) ?_
    refine S_istore2 hT dL_does_4 rfl rfl ?_
    refine J_iload_n (i := 1) hT dL_does_5 rfl rfl ?_
    refine J_bipush (v := 12) hT dL_does_6 rfl ?_
    refine J_idiv (d := 12) hT dL_does_8 rfl rfl hx (by decide) (by decide) ?_
    refine S_istore3 hT dL_does_9 rfl rfl ?_
    refine J_iload_n (i := 3) hT dL_does_10 rfl rfl ?_
    refine J_iconst (v := 5) hT dL_does_11 rfl ?_
    refine J_irem (d := 5) hT dL_does_12 rfl rfl hz (by decide) (by decide) ?_
    refine S_istore4 hT dL_does_13 rfl ?_
    refine J_iload_n (i := 3) hT dL_does_15 rfl rfl ?_
    refine J_iconst (v := 5) hT dL_does_16 rfl ?_
    refine J_idiv (d := 5) hT dL_does_17 rfl rfl hz (by decide) (by decide) ?_
    refine S_istore5 hT dL_does_18 rfl ?_
    refine J_iload_n (i := 2) hT dL_does_20 rfl rfl ?_
    refine J_iconst (v := 3) hT dL_does_21 rfl ?_
    refine J_icmp_ge (tgt := 48) hT dL_does_22 (by decide) (fun _ => ?_) (fun q => absurd ((by decide)) q)
    refine J_iload_n (i := 2) hT dL_does_48 rfl rfl ?_
    refine J_bipush (v := 7) hT dL_does_49 rfl ?_
    refine J_icmp_ge (tgt := 128) hT dL_does_51 (by decide) (fun _ => ?_) (fun q => absurd ((by decide)) q)
    refine J_iload_n (i := 2) hT dL_does_128 rfl rfl ?_
    refine J_bipush (v := 10) hT dL_does_129 rfl ?_
    refine J_icmp_ge (tgt := 215) hT dL_does_131 (by decide) (fun q => absurd q ((by decide))) (fun _ => ?_)
    refine J_iload_n (i := 2) hT dL_does_134 rfl rfl ?_
    refine J_bipush (v := 7) hT dL_does_135 rfl ?_
    refine J_icmp_ne (tgt := 156) hT dL_does_137 (by decide) (fun _ => ?_) (fun q => absurd q ((by decide)))
    refine J_iload_n (i := 2) hT dL_does_156 rfl rfl ?_
    refine J_bipush (v := 8) hT dL_does_157 rfl ?_
    refine J_icmp_ne (tgt := 183) hT dL_does_159 (by decide) (fun q => absurd ((by decide)) q) (fun _ => ?_)
    refine J_aload_n (i := 0) hT dL_does_162 rfl rfl ?_
    refine J_iload (i := 4) hT dL_does_163 rfl ?_
    refine J_iload (i := 5) hT dL_does_165 rfl ?_
    refine J_bipush (v := 60) hT dL_does_167 rfl ?_
    refine J_irem (d := 60) hT dL_does_169 rfl rfl hv (by decide) (by decide) ?_
    refine J_iload (i := 5) hT dL_does_170 rfl ?_
    refine J_bipush (v := 60) hT dL_does_172 rfl ?_
    refine J_idiv (d := 60) hT dL_does_174 rfl rfl hv (by decide) (by decide) ?_
    refine J_iconst (v := 5) hT dL_does_175 rfl ?_
    refine J_irem (d := 5) hT dL_does_176 rfl rfl (Nat.lt_of_le_of_lt (Nat.div_le_self _ _) hv) (by decide) (by decide) ?_
    refine J_callW hY dL_does_177 mfL_demand mtL_demand mwL_160 (l_demand hZ hO hX hN h (md (by decide) (by decide)) ⟨nI_le (a := 0) (Nat.zero_le _) (md (by decide) (by decide)), nI_le (b := 1000) (Nat.le_of_lt (md (by decide) (by decide))) (by decide)⟩ ⟨nI_le (a := 0) (Nat.zero_le _) (md (by decide) (by decide)), nI_le (b := 10) (Nat.le_of_lt (md (by decide) (by decide))) (by decide)⟩) rfl (by decide) rfl rfl (Nat.le_of_ble_eq_true rfl) (by decide) (by decide) (fun r1 μ1 hq => ?_)
    obtain ⟨x, rfl, hq⟩ := hq
    show zJ _ _ _ _ (.int x :: _) _ _ _
    refine J_goto (tgt := 214) hT dL_does_180 (by decide) ?_
    exact J_iret hT dL_does_214 rfl rfl (⟨x, rfl, by unfold DP; rw [eD, eR]; exact hq⟩) (by decide) (by decide)
  · have hne : Y / 12 % 5 ≠ (Y / 12 % 5 + 1 + Y / 12 / 5 % 4) % 5 := by omega
    by_cases h3 : Y / 12 / 5 / 4 % 3 = 0
    · have eD : dD Y = (7, nI (Y / 12 % 5), nI ((Y / 12 % 5 + 1 + Y / 12 / 5 % 4) % 5), 0, []) := by simp [dD, hk, h3]
      have eR : dRf Y n S = (¬ n < 40) := by simp [dRf, hk, h3]
      refine J_iload_n (i := 1) hT dL_does_0 rfl rfl ?_
      refine J_bipush (v := 12) hT dL_does_1 rfl ?_
      refine J_irem (d := 12) hT dL_does_3 rfl rfl hx (by decide) (by decide) ?_
      refine J_topil ((by rw [hk] : _ = nI 9)) ?_
      refine S_istore2 hT dL_does_4 rfl rfl ?_
      refine J_iload_n (i := 1) hT dL_does_5 rfl rfl ?_
      refine J_bipush (v := 12) hT dL_does_6 rfl ?_
      refine J_idiv (d := 12) hT dL_does_8 rfl rfl hx (by decide) (by decide) ?_
      refine S_istore3 hT dL_does_9 rfl rfl ?_
      refine J_iload_n (i := 3) hT dL_does_10 rfl rfl ?_
      refine J_iconst (v := 5) hT dL_does_11 rfl ?_
      refine J_irem (d := 5) hT dL_does_12 rfl rfl hz (by decide) (by decide) ?_
      refine S_istore4 hT dL_does_13 rfl ?_
      refine J_iload_n (i := 3) hT dL_does_15 rfl rfl ?_
      refine J_iconst (v := 5) hT dL_does_16 rfl ?_
      refine J_idiv (d := 5) hT dL_does_17 rfl rfl hz (by decide) (by decide) ?_
      refine S_istore5 hT dL_does_18 rfl ?_
      refine J_iload_n (i := 2) hT dL_does_20 rfl rfl ?_
      refine J_iconst (v := 3) hT dL_does_21 rfl ?_
      refine J_icmp_ge (tgt := 48) hT dL_does_22 (by decide) (fun _ => ?_) (fun q => absurd ((by decide)) q)
      refine J_iload_n (i := 2) hT dL_does_48 rfl rfl ?_
      refine J_bipush (v := 7) hT dL_does_49 rfl ?_
      refine J_icmp_ge (tgt := 128) hT dL_does_51 (by decide) (fun _ => ?_) (fun q => absurd ((by decide)) q)
      refine J_iload_n (i := 2) hT dL_does_128 rfl rfl ?_
      refine J_bipush (v := 10) hT dL_does_129 rfl ?_
      refine J_icmp_ge (tgt := 215) hT dL_does_131 (by decide) (fun q => absurd q ((by decide))) (fun _ => ?_)
      refine J_iload_n (i := 2) hT dL_does_134 rfl rfl ?_
      refine J_bipush (v := 7) hT dL_does_135 rfl ?_
      refine J_icmp_ne (tgt := 156) hT dL_does_137 (by decide) (fun _ => ?_) (fun q => absurd q ((by decide)))
      refine J_iload_n (i := 2) hT dL_does_156 rfl rfl ?_
      refine J_bipush (v := 8) hT dL_does_157 rfl ?_
      refine J_icmp_ne (tgt := 183) hT dL_does_159 (by decide) (fun _ => ?_) (fun q => absurd q ((by decide)))
      refine J_aload_n (i := 0) hT dL_does_183 rfl rfl ?_
      refine J_iload (i := 4) hT dL_does_184 rfl ?_
      refine J_iload (i := 4) hT dL_does_186 rfl ?_
      refine J_iconst (v := 1) hT dL_does_188 rfl ?_
      refine J_iadd hT dL_does_189 ?_
      refine J_topil (nI_add _ 1) ?_
      refine J_iload (i := 5) hT dL_does_190 rfl ?_
      refine J_iconst (v := 4) hT dL_does_192 rfl ?_
      refine J_irem (d := 4) hT dL_does_193 rfl rfl hv (by decide) (by decide) ?_
      refine J_iadd hT dL_does_194 ?_
      refine J_topil (nI_add _ _) ?_
      refine J_iconst (v := 5) hT dL_does_195 rfl ?_
      refine J_irem (d := 5) hT dL_does_196 rfl rfl (by omega) (by decide) (by decide) ?_
      refine J_iload (i := 5) hT dL_does_197 rfl ?_
      refine J_iconst (v := 4) hT dL_does_199 rfl ?_
      refine J_idiv (d := 4) hT dL_does_200 rfl rfl hv (by decide) (by decide) ?_
      refine J_iconst (v := 3) hT dL_does_201 rfl ?_
      refine J_irem (d := 3) hT dL_does_202 rfl rfl (Nat.lt_of_le_of_lt (Nat.div_le_self _ _) hv) (by decide) (by decide) ?_
      refine J_topil ((by rw [h3] : _ = nI 0)) ?_
      refine J_if_le (tgt := 210) hT dL_does_203 (by decide) (fun _ => ?_) (fun q => absurd ((by decide)) q)
      refine J_iconst (v := 0) hT dL_does_210 rfl ?_
      refine J_callW hY dL_does_211 mfL_need mtL_need mwL_163 (l_need0 hZ hO hX hN h (md (by decide) (by decide)) (md (by decide) (by decide)) hne) rfl (by decide) rfl rfl (Nat.le_of_ble_eq_true rfl) (by decide) (by decide) (fun r1 μ1 hq => ?_)
      obtain ⟨x, rfl, hq⟩ := hq
      show zJ _ _ _ _ (.int x :: _) _ _ _
      exact J_iret hT dL_does_214 rfl rfl (⟨x, rfl, by unfold DP; rw [eD, eR]; exact hq⟩) (by decide) (by decide)
    · have eD : dD Y = (7, nI (Y / 12 % 5), nI ((Y / 12 % 5 + 1 + Y / 12 / 5 % 4) % 5), 1, []) := by simp [dD, hk, h3]
      have eR : dRf Y n S = (¬ n < 40) := by simp [dRf, hk, h3]
      refine J_iload_n (i := 1) hT dL_does_0 rfl rfl ?_
      refine J_bipush (v := 12) hT dL_does_1 rfl ?_
      refine J_irem (d := 12) hT dL_does_3 rfl rfl hx (by decide) (by decide) ?_
      refine J_topil ((by rw [hk] : _ = nI 9)) ?_
      refine S_istore2 hT dL_does_4 rfl rfl ?_
      refine J_iload_n (i := 1) hT dL_does_5 rfl rfl ?_
      refine J_bipush (v := 12) hT dL_does_6 rfl ?_
      refine J_idiv (d := 12) hT dL_does_8 rfl rfl hx (by decide) (by decide) ?_
      refine S_istore3 hT dL_does_9 rfl rfl ?_
      refine J_iload_n (i := 3) hT dL_does_10 rfl rfl ?_
      refine J_iconst (v := 5) hT dL_does_11 rfl ?_
      refine J_irem (d := 5) hT dL_does_12 rfl rfl hz (by decide) (by decide) ?_
      refine S_istore4 hT dL_does_13 rfl ?_
      refine J_iload_n (i := 3) hT dL_does_15 rfl rfl ?_
      refine J_iconst (v := 5) hT dL_does_16 rfl ?_
      refine J_idiv (d := 5) hT dL_does_17 rfl rfl hz (by decide) (by decide) ?_
      refine S_istore5 hT dL_does_18 rfl ?_
      refine J_iload_n (i := 2) hT dL_does_20 rfl rfl ?_
      refine J_iconst (v := 3) hT dL_does_21 rfl ?_
      refine J_icmp_ge (tgt := 48) hT dL_does_22 (by decide) (fun _ => ?_) (fun q => absurd ((by decide)) q)
      refine J_iload_n (i := 2) hT dL_does_48 rfl rfl ?_
      refine J_bipush (v := 7) hT dL_does_49 rfl ?_
      refine J_icmp_ge (tgt := 128) hT dL_does_51 (by decide) (fun _ => ?_) (fun q => absurd ((by decide)) q)
      refine J_iload_n (i := 2) hT dL_does_128 rfl rfl ?_
      refine J_bipush (v := 10) hT dL_does_129 rfl ?_
      refine J_icmp_ge (tgt := 215) hT dL_does_131 (by decide) (fun q => absurd q ((by decide))) (fun _ => ?_)
      refine J_iload_n (i := 2) hT dL_does_134 rfl rfl ?_
      refine J_bipush (v := 7) hT dL_does_135 rfl ?_
      refine J_icmp_ne (tgt := 156) hT dL_does_137 (by decide) (fun _ => ?_) (fun q => absurd q ((by decide)))
      refine J_iload_n (i := 2) hT dL_does_156 rfl rfl ?_
      refine J_bipush (v := 8) hT dL_does_157 rfl ?_
      refine J_icmp_ne (tgt := 183) hT dL_does_159 (by decide) (fun _ => ?_) (fun q => absurd q ((by decide)))
      refine J_aload_n (i := 0) hT dL_does_183 rfl rfl ?_
      refine J_iload (i := 4) hT dL_does_184 rfl ?_
      refine J_iload (i := 4) hT dL_does_186 rfl ?_
      refine J_iconst (v := 1) hT dL_does_188 rfl ?_
      refine J_iadd hT dL_does_189 ?_
      refine J_topil (nI_add _ 1) ?_
      refine J_iload (i := 5) hT dL_does_190 rfl ?_
      refine J_iconst (v := 4) hT dL_does_192 rfl ?_
      refine J_irem (d := 4) hT dL_does_193 rfl rfl hv (by decide) (by decide) ?_
      refine J_iadd hT dL_does_194 ?_
      refine J_topil (nI_add _ _) ?_
      refine J_iconst (v := 5) hT dL_does_195 rfl ?_
      refine J_irem (d := 5) hT dL_does_196 rfl rfl (by omega) (by decide) (by decide) ?_
      refine J_iload (i := 5) hT dL_does_197 rfl ?_
      refine J_iconst (v := 4) hT dL_does_199 rfl ?_
      refine J_idiv (d := 4) hT dL_does_200 rfl rfl hv (by decide) (by decide) ?_
      refine J_iconst (v := 3) hT dL_does_201 rfl ?_
      refine J_irem (d := 3) hT dL_does_202 rfl rfl (Nat.lt_of_le_of_lt (Nat.div_le_self _ _) hv) (by decide) (by decide) ?_
      refine J_if_le (tgt := 210) hT dL_does_203 (by decide) (fun q => absurd q (nI_nle (Nat.pos_of_ne_zero h3) (md (by decide) (by decide)))) (fun _ => ?_)
      refine J_iconst (v := 1) hT dL_does_206 rfl ?_
      refine J_goto (tgt := 211) hT dL_does_207 (by decide) ?_
      refine J_callW hY dL_does_211 mfL_need mtL_need mwL_163 (l_need1 hZ hO hX hN h (md (by decide) (by decide)) (md (by decide) (by decide)) hne) rfl (by decide) rfl rfl (Nat.le_of_ble_eq_true rfl) (by decide) (by decide) (fun r1 μ1 hq => ?_)
      obtain ⟨x, rfl, hq⟩ := hq
      show zJ _ _ _ _ (.int x :: _) _ _ _
      exact J_iret hT dL_does_214 rfl rfl (⟨x, rfl, by unfold DP; rw [eD, eR]; exact hq⟩) (by decide) (by decide)
  · by_cases h3 : Y / 12 / 5 % 30 = 0
    · have eD : dD Y = (8, nI (Y / 12 % 5), -1, 0, []) := by
        have e0 : (nI 0 - 1 : Int32) = -1 := by decide
        simp [dD, hk, h3, e0]
      have eR : dRf Y n S = (¬ n < 40) := by simp [dRf, hk, h3]
      refine J_iload_n (i := 1) hT dL_does_0 rfl rfl ?_
      refine J_bipush (v := 12) hT dL_does_1 rfl ?_
      refine J_irem (d := 12) hT dL_does_3 rfl rfl hx (by decide) (by decide) ?_
      refine J_topil ((by rw [hk] : _ = nI 10)) ?_
      refine S_istore2 hT dL_does_4 rfl rfl ?_
      refine J_iload_n (i := 1) hT dL_does_5 rfl rfl ?_
      refine J_bipush (v := 12) hT dL_does_6 rfl ?_
      refine J_idiv (d := 12) hT dL_does_8 rfl rfl hx (by decide) (by decide) ?_
      refine S_istore3 hT dL_does_9 rfl rfl ?_
      refine J_iload_n (i := 3) hT dL_does_10 rfl rfl ?_
      refine J_iconst (v := 5) hT dL_does_11 rfl ?_
      refine J_irem (d := 5) hT dL_does_12 rfl rfl hz (by decide) (by decide) ?_
      refine S_istore4 hT dL_does_13 rfl ?_
      refine J_iload_n (i := 3) hT dL_does_15 rfl rfl ?_
      refine J_iconst (v := 5) hT dL_does_16 rfl ?_
      refine J_idiv (d := 5) hT dL_does_17 rfl rfl hz (by decide) (by decide) ?_
      refine S_istore5 hT dL_does_18 rfl ?_
      refine J_iload_n (i := 2) hT dL_does_20 rfl rfl ?_
      refine J_iconst (v := 3) hT dL_does_21 rfl ?_
      refine J_icmp_ge (tgt := 48) hT dL_does_22 (by decide) (fun _ => ?_) (fun q => absurd ((by decide)) q)
      refine J_iload_n (i := 2) hT dL_does_48 rfl rfl ?_
      refine J_bipush (v := 7) hT dL_does_49 rfl ?_
      refine J_icmp_ge (tgt := 128) hT dL_does_51 (by decide) (fun _ => ?_) (fun q => absurd ((by decide)) q)
      refine J_iload_n (i := 2) hT dL_does_128 rfl rfl ?_
      refine J_bipush (v := 10) hT dL_does_129 rfl ?_
      refine J_icmp_ge (tgt := 215) hT dL_does_131 (by decide) (fun _ => ?_) (fun q => absurd ((by decide)) q)
      refine J_iload_n (i := 2) hT dL_does_215 rfl rfl ?_
      refine J_bipush (v := 10) hT dL_does_216 rfl ?_
      refine J_icmp_ne (tgt := 237) hT dL_does_218 (by decide) (fun q => absurd ((by decide)) q) (fun _ => ?_)
      refine J_aload_n (i := 0) hT dL_does_221 rfl rfl ?_
      refine J_iload (i := 4) hT dL_does_222 rfl ?_
      refine J_iload (i := 5) hT dL_does_224 rfl ?_
      refine J_bipush (v := 30) hT dL_does_226 rfl ?_
      refine J_irem (d := 30) hT dL_does_228 rfl rfl hv (by decide) (by decide) ?_
      refine J_topil ((by rw [h3] : _ = nI 0)) ?_
      refine J_iconst (v := 1) hT dL_does_229 rfl ?_
      refine J_isub hT dL_does_230 ?_
      refine J_topil ((by decide : (nI 0 - 1 : Int32) = -1)) ?_
      refine J_callW hY dL_does_231 mfL_lie mtL_lie mwL_166 (l_lieN hZ hO hX hN h (md (by decide) (by decide))) rfl (by decide) rfl rfl (Nat.le_of_ble_eq_true rfl) (by decide) (by decide) (fun r1 μ1 hq => ?_)
      obtain ⟨x, rfl, hq⟩ := hq
      show zJ _ _ _ _ (.int x :: _) _ _ _
      refine J_goto (tgt := 264) hT dL_does_234 (by decide) ?_
      exact J_iret hT dL_does_264 rfl rfl (⟨x, rfl, by unfold DP; rw [eD, eR]; exact hq⟩) (by decide) (by decide)
    · have eD : dD Y = (8, nI (Y / 12 % 5), nI (Y / 12 / 5 % 30) - 1, 0, []) := by simp [dD, hk]
      have eR : dRf Y n S = (¬ n < 40) := by simp [dRf, hk]
      refine J_iload_n (i := 1) hT dL_does_0 rfl rfl ?_
      refine J_bipush (v := 12) hT dL_does_1 rfl ?_
      refine J_irem (d := 12) hT dL_does_3 rfl rfl hx (by decide) (by decide) ?_
      refine J_topil ((by rw [hk] : _ = nI 10)) ?_
      refine S_istore2 hT dL_does_4 rfl rfl ?_
      refine J_iload_n (i := 1) hT dL_does_5 rfl rfl ?_
      refine J_bipush (v := 12) hT dL_does_6 rfl ?_
      refine J_idiv (d := 12) hT dL_does_8 rfl rfl hx (by decide) (by decide) ?_
      refine S_istore3 hT dL_does_9 rfl rfl ?_
      refine J_iload_n (i := 3) hT dL_does_10 rfl rfl ?_
      refine J_iconst (v := 5) hT dL_does_11 rfl ?_
      refine J_irem (d := 5) hT dL_does_12 rfl rfl hz (by decide) (by decide) ?_
      refine S_istore4 hT dL_does_13 rfl ?_
      refine J_iload_n (i := 3) hT dL_does_15 rfl rfl ?_
      refine J_iconst (v := 5) hT dL_does_16 rfl ?_
      refine J_idiv (d := 5) hT dL_does_17 rfl rfl hz (by decide) (by decide) ?_
      refine S_istore5 hT dL_does_18 rfl ?_
      refine J_iload_n (i := 2) hT dL_does_20 rfl rfl ?_
      refine J_iconst (v := 3) hT dL_does_21 rfl ?_
      refine J_icmp_ge (tgt := 48) hT dL_does_22 (by decide) (fun _ => ?_) (fun q => absurd ((by decide)) q)
      refine J_iload_n (i := 2) hT dL_does_48 rfl rfl ?_
      refine J_bipush (v := 7) hT dL_does_49 rfl ?_
      refine J_icmp_ge (tgt := 128) hT dL_does_51 (by decide) (fun _ => ?_) (fun q => absurd ((by decide)) q)
      refine J_iload_n (i := 2) hT dL_does_128 rfl rfl ?_
      refine J_bipush (v := 10) hT dL_does_129 rfl ?_
      refine J_icmp_ge (tgt := 215) hT dL_does_131 (by decide) (fun _ => ?_) (fun q => absurd ((by decide)) q)
      refine J_iload_n (i := 2) hT dL_does_215 rfl rfl ?_
      refine J_bipush (v := 10) hT dL_does_216 rfl ?_
      refine J_icmp_ne (tgt := 237) hT dL_does_218 (by decide) (fun q => absurd ((by decide)) q) (fun _ => ?_)
      refine J_aload_n (i := 0) hT dL_does_221 rfl rfl ?_
      refine J_iload (i := 4) hT dL_does_222 rfl ?_
      refine J_iload (i := 5) hT dL_does_224 rfl ?_
      refine J_bipush (v := 30) hT dL_does_226 rfl ?_
      refine J_irem (d := 30) hT dL_does_228 rfl rfl hv (by decide) (by decide) ?_
      refine J_iconst (v := 1) hT dL_does_229 rfl ?_
      refine J_isub hT dL_does_230 ?_
      refine J_callW hY dL_does_231 mfL_lie mtL_lie mwL_166 (l_lie hZ hO hX hN h (md (by decide) (by decide)) (rg30 _ (md (by decide) (by decide)) h3)) rfl (by decide) rfl rfl (Nat.le_of_ble_eq_true rfl) (by decide) (by decide) (fun r1 μ1 hq => ?_)
      obtain ⟨x, rfl, hq⟩ := hq
      show zJ _ _ _ _ (.int x :: _) _ _ _
      refine J_goto (tgt := 264) hT dL_does_234 (by decide) ?_
      exact J_iret hT dL_does_264 rfl rfl (⟨x, rfl, by unfold DP; rw [eD, eR]; exact hq⟩) (by decide) (by decide)
  · by_cases h3 : Y / 12 / 5 % 4 = 0
    · have eD : dD Y = (9, nI (Y / 12 % 5), 0, 0, []) := by simp [dD, hk, h3]
      have eR : dRf Y n S = (S 92 (Y / 12 % 5) ≠ 3 ∨ ¬ n < 40) := by simp [dRf, hk, h3]
      refine J_iload_n (i := 1) hT dL_does_0 rfl rfl ?_
      refine J_bipush (v := 12) hT dL_does_1 rfl ?_
      refine J_irem (d := 12) hT dL_does_3 rfl rfl hx (by decide) (by decide) ?_
      refine J_topil ((by rw [hk] : _ = nI 11)) ?_
      refine S_istore2 hT dL_does_4 rfl rfl ?_
      refine J_iload_n (i := 1) hT dL_does_5 rfl rfl ?_
      refine J_bipush (v := 12) hT dL_does_6 rfl ?_
      refine J_idiv (d := 12) hT dL_does_8 rfl rfl hx (by decide) (by decide) ?_
      refine S_istore3 hT dL_does_9 rfl rfl ?_
      refine J_iload_n (i := 3) hT dL_does_10 rfl rfl ?_
      refine J_iconst (v := 5) hT dL_does_11 rfl ?_
      refine J_irem (d := 5) hT dL_does_12 rfl rfl hz (by decide) (by decide) ?_
      refine S_istore4 hT dL_does_13 rfl ?_
      refine J_iload_n (i := 3) hT dL_does_15 rfl rfl ?_
      refine J_iconst (v := 5) hT dL_does_16 rfl ?_
      refine J_idiv (d := 5) hT dL_does_17 rfl rfl hz (by decide) (by decide) ?_
      refine S_istore5 hT dL_does_18 rfl ?_
      refine J_iload_n (i := 2) hT dL_does_20 rfl rfl ?_
      refine J_iconst (v := 3) hT dL_does_21 rfl ?_
      refine J_icmp_ge (tgt := 48) hT dL_does_22 (by decide) (fun _ => ?_) (fun q => absurd ((by decide)) q)
      refine J_iload_n (i := 2) hT dL_does_48 rfl rfl ?_
      refine J_bipush (v := 7) hT dL_does_49 rfl ?_
      refine J_icmp_ge (tgt := 128) hT dL_does_51 (by decide) (fun _ => ?_) (fun q => absurd ((by decide)) q)
      refine J_iload_n (i := 2) hT dL_does_128 rfl rfl ?_
      refine J_bipush (v := 10) hT dL_does_129 rfl ?_
      refine J_icmp_ge (tgt := 215) hT dL_does_131 (by decide) (fun _ => ?_) (fun q => absurd ((by decide)) q)
      refine J_iload_n (i := 2) hT dL_does_215 rfl rfl ?_
      refine J_bipush (v := 10) hT dL_does_216 rfl ?_
      refine J_icmp_ne (tgt := 237) hT dL_does_218 (by decide) (fun _ => ?_) (fun q => absurd q ((by decide)))
      refine J_iload (i := 5) hT dL_does_237 rfl ?_
      refine J_iconst (v := 4) hT dL_does_239 rfl ?_
      refine J_irem (d := 4) hT dL_does_240 rfl rfl hv (by decide) (by decide) ?_
      refine J_topil ((by rw [h3] : _ = nI 0)) ?_
      refine J_if_ne (tgt := 253) hT dL_does_241 (by decide) (fun q => absurd (rfl) q) (fun _ => ?_)
      refine J_aload_n (i := 0) hT dL_does_244 rfl rfl ?_
      refine J_iload (i := 4) hT dL_does_245 rfl ?_
      refine J_callW hY dL_does_247 mfL_mend mtL_mend mwL_168 (l_mend hZ hO hX hN h (md (by decide) (by decide))) rfl (by decide) rfl rfl (Nat.le_of_ble_eq_true rfl) (by decide) (by decide) (fun r1 μ1 hq => ?_)
      obtain ⟨x, rfl, hq⟩ := hq
      show zJ _ _ _ _ (.int x :: _) _ _ _
      refine J_goto (tgt := 264) hT dL_does_250 (by decide) ?_
      exact J_iret hT dL_does_264 rfl rfl (⟨x, rfl, by unfold DP; rw [eD, eR]; exact hq⟩) (by decide) (by decide)
    · have eD : dD Y = (10, nI (1 + Y / 12 / 5 % 15), 0, 0, []) := by simp [dD, hk, h3]
      have eR : dRf Y n S = (¬ (S 67 34 + nI (1 + Y / 12 / 5 % 15) ≤ 2000) ∨ ¬ n < 40) := by simp [dRf, hk, h3]
      refine J_iload_n (i := 1) hT dL_does_0 rfl rfl ?_
      refine J_bipush (v := 12) hT dL_does_1 rfl ?_
      refine J_irem (d := 12) hT dL_does_3 rfl rfl hx (by decide) (by decide) ?_
      refine J_topil ((by rw [hk] : _ = nI 11)) ?_
      refine S_istore2 hT dL_does_4 rfl rfl ?_
      refine J_iload_n (i := 1) hT dL_does_5 rfl rfl ?_
      refine J_bipush (v := 12) hT dL_does_6 rfl ?_
      refine J_idiv (d := 12) hT dL_does_8 rfl rfl hx (by decide) (by decide) ?_
      refine S_istore3 hT dL_does_9 rfl rfl ?_
      refine J_iload_n (i := 3) hT dL_does_10 rfl rfl ?_
      refine J_iconst (v := 5) hT dL_does_11 rfl ?_
      refine J_irem (d := 5) hT dL_does_12 rfl rfl hz (by decide) (by decide) ?_
      refine S_istore4 hT dL_does_13 rfl ?_
      refine J_iload_n (i := 3) hT dL_does_15 rfl rfl ?_
      refine J_iconst (v := 5) hT dL_does_16 rfl ?_
      refine J_idiv (d := 5) hT dL_does_17 rfl rfl hz (by decide) (by decide) ?_
      refine S_istore5 hT dL_does_18 rfl ?_
      refine J_iload_n (i := 2) hT dL_does_20 rfl rfl ?_
      refine J_iconst (v := 3) hT dL_does_21 rfl ?_
      refine J_icmp_ge (tgt := 48) hT dL_does_22 (by decide) (fun _ => ?_) (fun q => absurd ((by decide)) q)
      refine J_iload_n (i := 2) hT dL_does_48 rfl rfl ?_
      refine J_bipush (v := 7) hT dL_does_49 rfl ?_
      refine J_icmp_ge (tgt := 128) hT dL_does_51 (by decide) (fun _ => ?_) (fun q => absurd ((by decide)) q)
      refine J_iload_n (i := 2) hT dL_does_128 rfl rfl ?_
      refine J_bipush (v := 10) hT dL_does_129 rfl ?_
      refine J_icmp_ge (tgt := 215) hT dL_does_131 (by decide) (fun _ => ?_) (fun q => absurd ((by decide)) q)
      refine J_iload_n (i := 2) hT dL_does_215 rfl rfl ?_
      refine J_bipush (v := 10) hT dL_does_216 rfl ?_
      refine J_icmp_ne (tgt := 237) hT dL_does_218 (by decide) (fun _ => ?_) (fun q => absurd q ((by decide)))
      refine J_iload (i := 5) hT dL_does_237 rfl ?_
      refine J_iconst (v := 4) hT dL_does_239 rfl ?_
      refine J_irem (d := 4) hT dL_does_240 rfl rfl hv (by decide) (by decide) ?_
      refine J_if_ne (tgt := 253) hT dL_does_241 (by decide) (fun _ => ?_) (fun q => absurd q (nI_ne0 (Nat.pos_of_ne_zero h3) (md (by decide) (by decide))))
      refine J_aload_n (i := 0) hT dL_does_253 rfl rfl ?_
      refine J_iconst (v := 1) hT dL_does_254 rfl ?_
      refine J_iload (i := 5) hT dL_does_255 rfl ?_
      refine J_bipush (v := 15) hT dL_does_257 rfl ?_
      refine J_irem (d := 15) hT dL_does_259 rfl rfl hv (by decide) (by decide) ?_
      refine J_iadd hT dL_does_260 ?_
      refine J_topil (nI_add 1 _) ?_
      refine J_callW hY dL_does_261 mfL_tick mtL_tick mwL_170 (l_tick hZ hO hX hN h (Nat.le_add_right 1 _) (by omega)) rfl (by decide) rfl rfl (Nat.le_of_ble_eq_true rfl) (by decide) (by decide) (fun r1 μ1 hq => ?_)
      obtain ⟨x, rfl, hq⟩ := hq
      show zJ _ _ _ _ (.int x :: _) _ _ _
      exact J_iret hT dL_does_264 rfl rfl (⟨x, rfl, by unfold DP; rw [eD, eR]; exact hq⟩) (by decide) (by decide)

