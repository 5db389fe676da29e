set_option maxRecDepth 100000 in
set_option maxHeartbeats 4000000 in
theorem c_X1_init {l : Launch} {Z : zZ} (hZ : zSt l Z) {μ : zMem} {σ : zS2} {π : zP2} {g : zG2} {a f : Nat} (ha : zK μ a = 1 + 8) {v : Int32} : zCt l Z mX1_init 0 0 0 [.ref a, .ref f, .int v] (zA4 μ σ π g) (fun r μ' => r = none ∧ μ' = zA4 μ (zu σ a 1 v) (zup π a 0 (some f)) g) := by
  refine zCt_of hZ mpX1_init (Nat.le_of_ble_eq_true rfl) (L := [some (.ref a), some (.ref f), some (.int v)]) rfl (fun τ hY => ?_)
  have hT := hY.1
  refine J_aload_n (i := 0) hT dX1_init_0 rfl rfl ?_
  refine J_objInit hT dX1_init_1 kX1_1 oi1 oi2 rfl (by decide) ?_
  refine J_aload_n (i := 0) hT dX1_init_4 rfl rfl ?_
  refine J_aload_n (i := 1) hT dX1_init_5 rfl rfl ?_
  refine C_putP hT fX1_7 (Or.inr ⟨rfl, rfl, wX1_7⟩) rfl dX1_init_6 ha ?_
  refine J_aload_n (i := 0) hT dX1_init_9 rfl rfl ?_
  refine J_iload_n (i := 2) hT dX1_init_10 rfl rfl ?_
  refine C_putI hT fX1_13 (Or.inr ⟨rfl, rfl, wX1_13⟩) rfl dX1_init_11 ha ?_
  exact J_vret hT dX1_init_14 rfl (⟨rfl, rfl⟩) (Nat.le_refl _) (Nat.le_refl _)

/-- a Formula was made, of the parser's tokens -/
def zMk (μ : zMem) (σ : zS2) (π : zP2) (g : zG2) (n : Nat) (rd : Int32) (μx : zMem) : Prop := ∃ σ' π' g', μx = zA4 (zal (zal μ (1 + 8) 0) 0 n) σ' π' g' ∧ (∀ b, b < zN μ → ∀ j, σ' b j = σ b j ∧ π' b j = π b j ∧ g' b j = g b j) ∧ σ' (zN μ) 1 = rd ∧ π' (zN μ) 0 = some (zN μ + 1) ∧ ∀ i, i < n → σ' (zN μ + 1) i = σ 4 i
set_option maxRecDepth 100000 in
set_option maxHeartbeats 4000000 in
theorem c_X2_makeFormula {l : Launch} {Z : zZ} (hZ : zSt l Z) {μ : zMem} {σ : zS2} {π : zP2} {g : zG2} (hH : zPh μ π) (hN : 5 ≤ zN μ) {n : Nat} {rd : Int32} (h2 : σ 3 2 = nI n) (h3 : σ 3 3 = rd) (hn : n ≤ 30) : zCt l Z mX2_makeFormula 2 2 32 [.ref 3] (zA4 μ σ π g) (fun r μ' => r = some (.ref (zN μ)) ∧ zMk μ σ π g n rd μ') := by
  refine zCt_of hZ mpX2_makeFormula (Nat.le_of_ble_eq_true rfl) (L := [some (.ref 3)]) rfl (fun τ hY => ?_)
  have hT := hY.1
  have k1 : ∀ b, b < zN μ → zK (zal μ (1 + 8) 0) b = zK μ b := fun b hb => by rw [zK_al, if_neg (by omega)]
  have l1 : ∀ b, b < zN μ → zL (zal μ (1 + 8) 0) b = zL μ b := fun b hb => by rw [zL_al, if_neg (by omega)]
  have s1 : ∀ b, b < zN μ → ∀ j, nσ μ σ b j = σ b j := fun b hb j => by unfold nσ; rw [if_neg (by omega)]
  have p1 : ∀ b, b < zN μ → ∀ j, nπ μ π b j = π b j := fun b hb j => by unfold nπ; rw [if_neg (by omega)]
  have g1 : ∀ b, b < zN μ → ∀ j, ng2 μ g b j = g b j := fun b hb j => by unfold ng2; rw [if_neg (by omega)]
  refine J_new (ci := 1) hT (by decide) dX2_makeFormula_0 kcX2_42 inX1 itX1 (by decide) (by decide) (by decide) ?_
  refine J_mu (zal_A4 μ σ π g (1 + 8) 0) ?_
  show zJ _ _ _ _ [.ref (zN μ)] _ _ _
  refine J_dup hT dX2_makeFormula_3 rfl ?_
  refine J_aload_n (i := 0) hT dX2_makeFormula_4 rfl rfl ?_
  refine R_getP hT fX2_9 rfl dX2_makeFormula_5 ((k1 3 (by omega)).trans hH.k3) ((p1 3 (by omega) 1).trans hH.q31) ?_
  refine J_iconst (v := 0) hT dX2_makeFormula_8 rfl ?_
  refine J_aload_n (i := 0) hT dX2_makeFormula_9 rfl rfl ?_
  refine R_getI hT fX2_15 rfl dX2_makeFormula_10 ((k1 3 (by omega)).trans hH.k3) ?_
  refine J_topil ((s1 3 (by omega) 2).trans h2) ?_
  refine J_mmax hT dX2_makeFormula_13 kX2_44 rfl (Nat.le_of_ble_eq_true rfl) (by decide) (by decide) ?_
  refine J_topil (show (if (0 : Int32) < nI n then nI n else 0) = nI n from ?_) ?_
  · by_cases q : n = 0
    · subst q; rfl
    · exact if_pos (nI_lt (a := 0) (b := n) (by omega) (by omega))
  refine J_callS hY dX2_makeFormula_16 mfJ7_copyOf cw_st (Or.inl cw_lk) (c_J7_copyOf (a := 4) (n := n) hZ ((k1 4 (by omega)).trans hH.k4) ((l1 4 (by omega)).trans hH.l4) (show 4 < zN μ + 1 by omega) hn) rfl (by decide) rfl rfl (Nat.le_of_ble_eq_true rfl) (by decide) (by decide) (fun r1 μ1 hq1 => ?_)
  obtain ⟨rfl, f, rfl, hf⟩ := hq1
  show zJ _ _ _ _ [.ref (zN μ + 1), .ref (zN μ), .ref (zN μ)] _ _ _
  have kk : ∀ b, b < zN μ + 1 → zK (zal (zal μ (1 + 8) 0) 0 n) b = zK (zal μ (1 + 8) 0) b := fun b hb => if_neg (show ¬ b = zN μ + 1 by omega)
  obtain ⟨σ2, hσ2⟩ : ∃ x, x = (fun b j => if b = zN (zal μ (1 + 8) 0) then f j else nσ μ σ b j) := ⟨_, rfl⟩
  obtain ⟨π2, hπ2⟩ : ∃ x, x = nπ (zal μ (1 + 8) 0) (nπ μ π) := ⟨_, rfl⟩
  obtain ⟨g2, hg2⟩ : ∃ x, x = ng2 (zal μ (1 + 8) 0) (ng2 μ g) := ⟨_, rfl⟩
  rw [← hσ2, ← hπ2, ← hg2]
  have e2 : ∀ b, b < zN μ → ∀ j, σ2 b j = σ b j ∧ π2 b j = π b j ∧ g2 b j = g b j := fun b hb j => by
    have hne : ¬ b = zN (zal μ (1 + 8) 0) := by show ¬ b = zN μ + 1; omega
    rw [hσ2, hπ2, hg2]
    dsimp only
    unfold nπ ng2
    rw [if_neg hne, if_neg hne, if_neg hne]
    exact ⟨s1 b hb j, p1 b hb j, g1 b hb j⟩
  refine J_aload_n (i := 0) hT dX2_makeFormula_19 rfl rfl ?_
  refine R_getI hT fX2_19 rfl dX2_makeFormula_20 ((kk 3 (by omega)).trans ((k1 3 (by omega)).trans hH.k3)) ?_
  refine J_topil ((e2 3 (by omega) 3).1.trans h3) ?_
  have hki : zK (zal (zal μ (1 + 8) 0) 0 n) (zN μ) = 1 + 8 := (kk _ (by omega)).trans (if_pos rfl)
  refine J_callI hY dX2_makeFormula_23 mfX1_init rfl rfl miX1_init kX2_56 (c_X1_init (a := zN μ) (f := zN μ + 1) (v := rd) hZ hki) rfl (by decide) rfl rfl (Nat.le_of_ble_eq_true rfl) (by decide) (by decide) (fun r2 μ2 hq2 => ?_)
  obtain ⟨rfl, rfl⟩ := hq2
  show zJ _ _ _ _ [.ref (zN μ)] _ _ _
  refine J_aret hT dX2_makeFormula_26 rfl ⟨rfl, _, _, _, rfl, fun b hb j => ?_, zu_eq _ _ _ _, zup_eq _ _ _ _, fun i hi => ?_⟩ (by decide) (by decide)
  · obtain ⟨a1, a2, a3⟩ := e2 b hb j
    exact ⟨(zu_ne _ _ _ _ (by omega) j).trans a1, (zup_n _ _ _ _ (fun q => by omega)).trans a2, a3⟩
  · rw [zu_ne _ _ _ _ (by omega), hσ2]
    show (if zN μ + 1 = zN μ + 1 then f i else _) = _
    rw [if_pos rfl, hf i hi]
    exact s1 4 (by omega) i

