theorem zals_last {μ : zMem} {l : List (Nat × Nat)} {x : Nat × Nat} {b : Nat} (hb : zN μ + l.length = b) : zK (zals μ (l ++ [x])) b = x.1 ∧ zL (zals μ (l ++ [x])) b = x.2 := by
  subst hb
  exact zals_at _ μ _ x (by simp)
theorem zals_N1 {μ : zMem} {l : List (Nat × Nat)} {x : Nat × Nat} {b : Nat} (hb : zN μ + l.length = b) : zN (zals μ (l ++ [x])) = b + 1 := by
  rw [zals_N, ← hb]
  simp
  omega
def dq5 : List (Nat × Nat) := [(7 + 8, 0), (2, 30), (2 + 8, 0), (0, 30)]
/-- all that a Daemonsheet makes -/
def dl : List (Nat × Nat) := ((((dq5 ++ [(6 + 8, 0)]) ++ tl 12 5 5) ++ [(6 + 8, 0)]) ++ tl 12 5 5) ++ [(7, 40)] ++ [(5 + 8, 0)]
def DI (σ : zS2) (π : zP2) : Prop := (π 0 0 = some 1 ∧ π 0 1 = some 3 ∧ π 0 2 = some 5 ∧ π 0 3 = some 35 ∧ π 0 4 = some 65 ∧ π 0 6 = some 66) ∧ σ 0 5 = 0 ∧ (π 1 0 = some 2 ∧ σ 1 1 = 0 ∧ ∀ i, σ 2 i = 0) ∧ (π 3 0 = some 1 ∧ π 3 1 = some 4) ∧ TI 5 12 5 5 σ π ∧ TI 35 12 5 5 σ π ∧ σ 66 0 = 10 ∧ σ 66 1 = 1
set_option maxRecDepth 100000 in
set_option maxHeartbeats 4000000 in
theorem c_X8_init {l : Launch} {Z : zZ} (hZ : zSt l Z) {μ : zMem} {σ : zS2} {π : zP2} {g : zG2} (h0 : zK μ 0 = 8 + 8) (hN : zN μ = 1) : zCt l Z mX8_init 3 66 552 [.ref 0] (zA4 μ σ π g) (fun r μ' => r = none ∧ ∃ σ' π' g', μ' = zA4 (zals μ dl) σ' π' g' ∧ DI σ' π') := by
  refine zCt_of hZ mpX8_init (Nat.le_of_ble_eq_true rfl) (L := [some (.ref 0)]) rfl (fun τ hY => ?_)
  have hT := hY.1
  have k0 : ∀ l, zK (zals μ l) 0 = 8 + 8 := fun l => (zals_o l μ 0 (by omega)).1.trans h0
  have hb1 : zN μ + ([] : List (Nat × Nat)).length = 1 := by rw [hN]; rfl
  have hb2 : zN μ + (([] : List (Nat × Nat)) ++ [(7 + 8, 0)]).length = 2 := by rw [hN]; rfl
  have hb3 : zN μ + ((([] : List (Nat × Nat)) ++ [(7 + 8, 0)]) ++ [(2, 30)]).length = 3 := by rw [hN]; rfl
  have hb4 : zN μ + (((([] : List (Nat × Nat)) ++ [(7 + 8, 0)]) ++ [(2, 30)]) ++ [(2 + 8, 0)]).length = 4 := by rw [hN]; rfl
  have hb5 : zN μ + dq5.length = 5 := by rw [hN]; rfl
  have hb35 : zN μ + ((dq5 ++ [(6 + 8, 0)]) ++ tl 12 5 5).length = 35 := by rw [hN, List.length_append, tl_len]; rfl
  have hb65 : zN μ + ((((dq5 ++ [(6 + 8, 0)]) ++ tl 12 5 5) ++ [(6 + 8, 0)]) ++ tl 12 5 5).length = 65 := by rw [hN, List.length_append, List.length_append, List.length_append, tl_len]; rfl
  have hb66 : zN μ + (((((dq5 ++ [(6 + 8, 0)]) ++ tl 12 5 5) ++ [(6 + 8, 0)]) ++ tl 12 5 5) ++ [(7, 40)]).length = 66 := by rw [hN, List.length_append, List.length_append, List.length_append, List.length_append, tl_len]; rfl
  refine J_mu (show zA4 μ σ π g = zA4 (zals μ []) σ π g from rfl) ?_
  refine J_aload_n (i := 0) hT dX8_init_0 rfl rfl ?_
  refine J_objInit hT dX8_init_1 kX8_3 oi1 oi2 rfl (by decide) ?_
  refine J_aload_n (i := 0) hT dX8_init_4 rfl rfl ?_
  refine N_new (ci := 7) (b := 1) hT (by decide) dX8_init_5 kcX8_9 inX7 itX7 (by decide) (by decide) (by decide) hb1 ?_
  refine J_dup hT dX8_init_8 rfl ?_
  refine J_callI hY dX8_init_9 mfX7_init rfl rfl miX7_init kX8_11 (c_X7_init (a := 1) (b := 2) hZ hb2 (by decide) (zals_last hb1).1) rfl (by decide) rfl rfl (Nat.le_of_ble_eq_true rfl) (by decide) (by decide) (fun r1 μ1 hq1 => ?_)
  obtain ⟨rfl, rfl⟩ := hq1
  show zJ _ _ _ _ [.ref 1, .ref 0] _ _ _
  refine C_putP hT fX8_12 (Or.inr ⟨rfl, rfl, wX8_12⟩) rfl dX8_init_12 (k0 _) ?_
  refine J_aload_n (i := 0) hT dX8_init_15 rfl rfl ?_
  refine N_new (ci := 2) (b := 3) hT (by decide) dX8_init_16 kcX8_16 inX2 itX2 (by decide) (by decide) (by decide) hb3 ?_
  refine J_dup hT dX8_init_19 rfl ?_
  refine J_aload_n (i := 0) hT dX8_init_20 rfl rfl ?_
  refine R_getP hT fX8_12 rfl dX8_init_21 (k0 _) (show _ = some 1 from rfl) ?_
  refine J_callI hY dX8_init_24 mfX2_init rfl rfl miX2_init kX8_18 (c_X2_init (a := 3) (b := 4) (x := 1) hZ hb4 (by decide) (zals_last hb3).1) rfl (by decide) rfl rfl (Nat.le_of_ble_eq_true rfl) (by decide) (by decide) (fun r1 μ1 hq1 => ?_)
  obtain ⟨rfl, rfl⟩ := hq1
  show zJ _ _ _ _ [.ref 3, .ref 0] _ _ _
  refine C_putP hT fX8_21 (Or.inr ⟨rfl, rfl, wX8_21⟩) rfl dX8_init_27 (k0 _) ?_
  refine J_aload_n (i := 0) hT dX8_init_30 rfl rfl ?_
  
  refine N_new (ci := 6) (b := 5) hT (by decide) dX8_init_31 kcX8_25 inX6 itX6 (by decide) (by decide) (by decide) hb5 ?_
  refine J_dup hT dX8_init_34 rfl ?_
  refine J_callI hY dX8_init_35 mfX6_init rfl rfl miX6_init kX8_27 (c_X6_init (t := 5) hZ (zals_last hb5).1 (zals_N1 hb5)) rfl (by decide) rfl rfl (Nat.le_of_ble_eq_true rfl) (by decide) (by decide) (fun r1 μ1 hq1 => ?_)
  obtain ⟨rfl, σ1, π1, g1, rfl, hI1, hF1⟩ := hq1
  show zJ _ _ _ _ [.ref 5, .ref 0] _ _ _
  refine J_mu (congrArg (fun m => zA4 m σ1 π1 g1) (zals_app _ _ _)) ?_
  refine C_putP hT fX8_28 (Or.inr ⟨rfl, rfl, wX8_28⟩) rfl dX8_init_38 (k0 _) ?_
  refine J_aload_n (i := 0) hT dX8_init_41 rfl rfl ?_
  refine N_new (ci := 6) (b := 35) hT (by decide) dX8_init_42 kcX8_25 inX6 itX6 (by decide) (by decide) (by decide) hb35 ?_
  refine J_dup hT dX8_init_45 rfl ?_
  refine J_callI hY dX8_init_46 mfX6_init rfl rfl miX6_init kX8_27 (c_X6_init (t := 35) hZ (zals_last hb35).1 (zals_N1 hb35)) rfl (by decide) rfl rfl (Nat.le_of_ble_eq_true rfl) (by decide) (by decide) (fun r1 μ1 hq1 => ?_)
  obtain ⟨rfl, σ2, π2, g2, rfl, hI2, hF2⟩ := hq1
  show zJ _ _ _ _ [.ref 35, .ref 0] _ _ _
  refine J_mu (congrArg (fun m => zA4 m σ2 π2 g2) (zals_app _ _ _)) ?_
  refine C_putP hT fX8_32 (Or.inr ⟨rfl, rfl, wX8_32⟩) rfl dX8_init_49 (k0 _) ?_
  refine J_aload_n (i := 0) hT dX8_init_52 rfl rfl ?_
  refine J_bipush (v := 40) hT dX8_init_53 rfl ?_
  refine N_newQ (b := 65) (kd := 7) (n := 40) hT (by decide) (by decide) dX8_init_55 kcX8_35 rfl (by decide) (by decide) (by decide) hb65 ?_
  refine C_putP hT fX8_37 (Or.inr ⟨rfl, rfl, wX8_37⟩) rfl dX8_init_58 (k0 _) ?_
  refine J_aload_n (i := 0) hT dX8_init_61 rfl rfl ?_
  refine J_iconst (v := 0) hT dX8_init_62 rfl ?_
  refine C_putI hT fX8_41 (Or.inr ⟨rfl, rfl, wX8_41⟩) rfl dX8_init_63 (k0 _) ?_
  refine J_aload_n (i := 0) hT dX8_init_66 rfl rfl ?_
  refine N_new (ci := 5) (b := 66) hT (by decide) dX8_init_67 kcX8_35 inX5 itX5 (by decide) (by decide) (by decide) hb66 ?_
  refine J_dup hT dX8_init_70 rfl ?_
  refine J_bipush (v := 10) hT dX8_init_71 rfl ?_
  refine J_iconst (v := 1) hT dX8_init_73 rfl ?_
  refine J_iconst (v := 0) hT dX8_init_74 rfl ?_
  refine J_iconst (v := 0) hT dX8_init_75 rfl ?_
  refine J_null hT dX8_init_76 ?_
  refine J_iconst (v := -1) hT dX8_init_77 rfl ?_
  refine J_callI hY dX8_init_78 mfX5_init rfl rfl miX5_init kX8_45 (c_X5_initN (f := 0) (a := 66) hZ (zals_last hb66).1) rfl (by decide) rfl rfl (Nat.le_of_ble_eq_true rfl) (by decide) (by decide) (fun r1 μ1 hq1 => ?_)
  obtain ⟨rfl, rfl⟩ := hq1
  show zJ _ _ _ _ [.ref 66, .ref 0] _ _ _
  refine C_putP hT fX8_48 (Or.inr ⟨rfl, rfl, wX8_48⟩) rfl dX8_init_81 (k0 _) ?_
  refine J_vret hT dX8_init_84 rfl ⟨rfl, _, _, _, rfl, ?_⟩ (by decide) (by decide)
  have s2 := fun b hb j => (hF2 b hb j).1
  have p2 := fun b hb j => (hF2 b hb j).2.1
  have s1 := fun b hb j => (hF1 b hb j).1
  have p1 := fun b hb j => (hF1 b hb j).2.1
  clear hF1 hF2
  refine ⟨⟨?_, ?_, ?_, ?_, ?_, ?_⟩, ?_, ⟨?_, ?_, fun i => ?_⟩, ⟨?_, ?_⟩, hI1.mv (fun b q1 q2 j => ?_), hI2.mv (fun b q1 q2 j => ?_), ?_, ?_⟩
  · simp [zup, n2, p2, p1]
  · simp [zup, n2, p2, p1]
  · simp [zup, n2, p2, p1]
  · simp [zup, n2, p2, p1]
  · simp [zup, n2, p2, p1]
  · simp [zup, n2, p2, p1]
  · simp [zu, n1, s2, s1]
  · simp [zup, n2, p2, p1]
  · simp [zu, n1, s2, s1]
  · simp [zu, n1, s2, s1]
  · simp [zup, n2, p2, p1]
  · simp [zup, n2, p2, p1]
  · have e0 : b ≠ 0 := by omega
    have e35 : b ≠ 35 := by omega
    have e65 : b ≠ 65 := by omega
    have e66 : b ≠ 66 := by omega
    have e34 : b < 35 := by omega
    exact ⟨by simp [zu, n1, s2, e0, e35, e65, e66, e34], by simp [zup, n2, p2, e0, e35, e65, e66, e34]⟩
  · have e0 : b ≠ 0 := by omega
    have e65 : b ≠ 65 := by omega
    have e66 : b ≠ 66 := by omega
    exact ⟨by simp [zu, n1, e0, e65, e66], by simp [zup, n2, e0, e65, e66]⟩
  · simp [zu]
  · simp [zu]


