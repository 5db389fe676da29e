theorem wkI_stab : ∀ (n : Nat) (S : zS2), DepthOK S → kcn S ≤ n → wkI S (n + 1) = wkI S n := by
  intro n
  induction n with
  | zero =>
    intro S hD h
    rw [wkI_none (kcn_0 (Nat.le_zero.mp h)), wkI_none (kcn_0 (Nat.le_zero.mp h))]
  | succ n ih =>
    intro S hD h
    cases hq : ndP S 12 with
    | none => rw [wkI_none hq, wkI_none hq]
    | some c =>
      rw [wkI_some hq, wkI_some hq]
      exact ih _ (hD.mv (wkS_sm S c)) (by have := kcn_lt hD hq; omega)
theorem worksF_some {S : zS2} (hD : DepthOK S) {c : Nat} (h : ndP S 12 = some c) : worksF S = worksF (wkS S c) := by
  unfold worksF
  rw [wkI_some h]
  exact (wkI_stab 11 _ (hD.mv (wkS_sm S c)) (by have := kcn_lt hD h; have := kcn_le S; omega)).symm
theorem worksF_none {S : zS2} (h : ∀ y, y < 12 → S 89 y = 0) : worksF S = S := wkI_none (ndP_of0 h) 12
theorem WFc.at {S : zS2} {c : Nat} (h : WFc S c) : WF (cdw S c) (cdn S c) := h.1
theorem mo.ud {t : Nat} (ht : ta t) {μ : zMem} {σ : zS2} {π : zP2} {S S' : zS2} (h : mo t μ σ π S) {m : Int32} (hm : dM m S') (hS : ∀ b, b ≠ 89 → ∀ j, S' b j = S b j) : mo t μ (zu σ t 6 m) π S' := ⟨h.1.ud ht hm hS, h.2.mv (fun _ => rfl) (fun c _ => hS 79 (by decide) c)⟩
theorem mo.uw {t : Nat} (ht : ta t) {μ : zMem} {σ : zS2} {π : zP2} {S : zS2} (h : mo t μ σ π S) {f j : Nat} {v : Int32} (hf : (f = 7 ∧ j = 34) ∨ (f = 8 ∧ j = 33)) : mo t μ (zu σ t f v) π (zu S 67 j v) := ⟨h.1.uw ht hf, h.2.mv (fun _ => rfl) (fun c _ => zu_ne _ _ _ _ (by decide) c)⟩
theorem mo.row {t : Nat} (ht : ta t) {μ : zMem} {σ σ' : zS2} {π : zP2} {S : zS2} (h : mo t μ σ π S) (e : ∀ b j, b ≠ t + 7 → σ' b j = σ b j) : mo t μ σ' π S := ⟨h.1.row ht e, h.2⟩
theorem worthN_mv {S S' : zS2} {c : Nat} (h : ∀ b, b = 88 ∨ b = 90 ∨ b = 96 ∨ b = 74 ∨ b = 75 → ∀ j, S' b j = S b j) : worthN S' c = worthN S c := by
  have e1 : cdw S' c = cdw S c := by funext k; unfold cdw; rw [h 74 (by omega)]
  have e2 : cdn S' c = cdn S c := by unfold cdn; rw [h 75 (by omega)]
  unfold worthN
  rw [e1, e2, evP_ne (h 88 (by omega)) (h 90 (by omega)) (h 96 (by omega))]
theorem mo.S {t : Nat} {μ : zMem} {σ : zS2} {π : zP2} {S S' : zS2} (h : mo t μ σ π S) (e : ∀ b j, ¬ (b = 67 ∧ j = 44) → S' b j = S b j) : mo t μ σ π S' := by
  refine ⟨h.1.S (fun x hx k _ => e _ _ (fun q => ?_)) (fun i _ => by rw [e _ _ (by omega)]) (e _ _ (by omega)) (e _ _ (by omega)) (fun s _ _ => ⟨e _ _ (by omega), e _ _ (by omega)⟩) (fun c _ => ⟨e _ _ (by omega), e _ _ (by omega), e _ _ (by omega), e _ _ (by omega), fun k _ => e _ _ (by omega)⟩), h.2.mv (fun _ => rfl) (fun c _ => e _ _ (by omega))⟩
  obtain ⟨_, _, _, _, _, f6⟩ := lks_f _ hx
  exact f6 (by rw [q.1]; decide)

set_option maxRecDepth 100000 in
set_option maxHeartbeats 4000000 in
theorem c_X6_workOutDirtyCells {l : Launch} {Z : zZ} (hZ : zSt l Z) (hO : zOps Z) {μ : zMem} {σ : zS2} {π : zP2} {g : zG2} {t : Nat} (ht : ta t) {S : zS2} (hM : mo t μ σ π S) (hR : RI S) (hX : XI S) : zCt l Z mX6_workOutDirtyCells 3 0 0 [.ref t] (zA4 μ σ π g) (fun r μ' => r = none ∧ zE t μ σ π g (worksF S) μ') := by
  refine zCt_of hZ mpX6_workOutDirtyCells (Nat.le_of_ble_eq_true rfl) (L := [some (.ref t), none, none, none, none]) rfl (fun τ hY => ?_)
  have hT := hY.1
  have hB := hM.1.tb
  obtain ⟨ρ, hρ1, hρ2, hρ3⟩ := hM.2
  have loop : ∀ n i, i + n = 12 → ∀ σ1 S1, mo t μ σ1 π S1 → RI S1 → XI S1 → worksF S1 = worksF S → (∀ q, q < i → S1 89 (ρ q) = 0) → (∀ c, S1 79 c = S 79 c) → zfT t σ σ1 → zch t σ σ1 → zJ τ (zFn τ (fun r μ' => r = none ∧ zE t μ σ π g (worksF S) μ') 0 0) 10 [some (.ref t), some (.ref (t + 4)), some (.int (nI 12)), some (.int (nI i)), none] [] (zA4 μ σ1 π g) 0 0 := by
    intro n
    induction n with
    | zero =>
      intro i hi
      have : i = 12 := by omega
      subst this
      intro σ1 S1 hM1 hR1 hX1 hw1 hd1 h79 hf1 hc1
      have e : worksF S1 = S1 := worksF_none (fun y hy => by
        obtain ⟨q, hq, e⟩ := hρ2 y hy
        rw [← e]; exact hd1 q hq)
      rw [e] at hw1
      refine J_iload_n (i := 3) hT dX6_workOutDirtyCells_10 rfl rfl ?_
      refine J_iload_n (i := 2) hT dX6_workOutDirtyCells_11 rfl rfl ?_
      refine J_icmp_ge (tgt := 93) hT dX6_workOutDirtyCells_12 (by decide) (fun _ => ?_) (fun q => absurd (nI_le (a := 12) (b := 12) (by decide) (by decide)) q)
      exact J_vret hT dX6_workOutDirtyCells_93 rfl (⟨rfl, hw1 ▸ ⟨σ1, π, rfl, hM1, hf1, rfl, hc1⟩⟩) (Nat.le_refl _) (Nat.le_refl _)
    | succ n ih =>
      intro i hi
      intro σ1 S1 hM1 hR1 hX1 hw1 hd1 h79 hf1 hc1
      have hi12 : i < 12 := by omega
      have hB1 := hM1.1.tb
      obtain ⟨hc, hpc⟩ := hρ1 i hi12
      obtain ⟨f, hf, hF⟩ := hM1.1.fm hc
      have hbd := hM1.1.d (ρ i) (by omega)
      rw [decide_eq_true hc, Bool.true_and] at hbd
      by_cases hz : σ1 t 6 = 0
      · have e : worksF S1 = S1 := worksF_none ((dM_0 hM1.1.d).mp hz)
        rw [e] at hw1
        refine J_iload_n (i := 3) hT dX6_workOutDirtyCells_10 rfl rfl ?_
        refine J_iload_n (i := 2) hT dX6_workOutDirtyCells_11 rfl rfl ?_
        refine J_icmp_ge (tgt := 93) hT dX6_workOutDirtyCells_12 (by decide) (fun q => absurd q (Int32.not_le.mpr (nI_lt (a := i) (b := 12) (by omega) (by decide)))) (fun _ => ?_)
        refine J_aload_n (i := 1) hT dX6_workOutDirtyCells_15 rfl rfl ?_
        refine J_iload_n (i := 3) hT dX6_workOutDirtyCells_16 rfl rfl ?_
        refine R_aald1 hT dX6_workOutDirtyCells_17 hB.k4 (by decide) hB.l4 (by first | exact ⟨rfl, by decide⟩ | exact zix_nI (by omega) (by decide) | assumption) hpc ?_
        refine S_astore4 hT dX6_workOutDirtyCells_18 rfl ?_
        refine J_aload_n (i := 0) hT dX6_workOutDirtyCells_20 rfl rfl ?_
        refine R_getI hT fX6_45 rfl dX6_workOutDirtyCells_21 hB.k ?_
        refine J_if_ne (tgt := 28) hT dX6_workOutDirtyCells_24 (by decide) (fun q => absurd (hz) q) (fun _ => ?_)
        exact J_vret hT dX6_workOutDirtyCells_27 rfl (⟨rfl, hw1 ▸ ⟨σ1, π, rfl, hM1, hf1, rfl, hc1⟩⟩) (Nat.le_refl _) (Nat.le_refl _)
      · by_cases hdi : S1 89 (ρ i) = 0
        · refine J_iload_n (i := 3) hT dX6_workOutDirtyCells_10 rfl rfl ?_
          refine J_iload_n (i := 2) hT dX6_workOutDirtyCells_11 rfl rfl ?_
          refine J_icmp_ge (tgt := 93) hT dX6_workOutDirtyCells_12 (by decide) (fun q => absurd q (Int32.not_le.mpr (nI_lt (a := i) (b := 12) (by omega) (by decide)))) (fun _ => ?_)
          refine J_aload_n (i := 1) hT dX6_workOutDirtyCells_15 rfl rfl ?_
          refine J_iload_n (i := 3) hT dX6_workOutDirtyCells_16 rfl rfl ?_
          refine R_aald1 hT dX6_workOutDirtyCells_17 hB.k4 (by decide) hB.l4 (by first | exact ⟨rfl, by decide⟩ | exact zix_nI (by omega) (by decide) | assumption) hpc ?_
          refine S_astore4 hT dX6_workOutDirtyCells_18 rfl ?_
          refine J_aload_n (i := 0) hT dX6_workOutDirtyCells_20 rfl rfl ?_
          refine R_getI hT fX6_45 rfl dX6_workOutDirtyCells_21 hB.k ?_
          refine J_if_ne (tgt := 28) hT dX6_workOutDirtyCells_24 (by decide) (fun _ => ?_) (fun q => absurd q (hz))
          refine J_aload_n (i := 0) hT dX6_workOutDirtyCells_28 rfl rfl ?_
          refine R_getI hT fX6_45 rfl dX6_workOutDirtyCells_29 hB.k ?_
          refine J_aload (i := 4) hT dX6_workOutDirtyCells_32 rfl ?_
          refine R_getI hT fX6_130 rfl dX6_workOutDirtyCells_34 (hB1.kc hc) ?_
          refine J_topil (hM1.1.nc hc) ?_
          refine R_callS1 hY dX6_workOutDirtyCells_37 mfX8_has mtX8_has kX6_184 (c_X8_has hZ (by omega)) rfl (by decide) rfl rfl (Nat.le_of_ble_eq_true rfl) (Nat.le_refl _) (Nat.le_refl _) ?_
          refine J_if_eq (tgt := 87) hT dX6_workOutDirtyCells_40 (by decide) (fun _ => ?_) (fun q => absurd ((by rw [hbd, hdi]; rfl)) q)
          refine S_iinc3 hT dX6_workOutDirtyCells_87 (nI_inc _) rfl ?_
          refine J_goto (tgt := 10) hT dX6_workOutDirtyCells_90 (by decide) ?_
          refine J_L (L' := [_, _, _, _, none]) (zsub_keep (zsub_keep (zsub_keep (zsub_keep (zsub_drop zsub_nil))))) ?_
          exact ih (i + 1) (by omega) σ1 S1 hM1 hR1 hX1 hw1 (fun q hq => by
            by_cases e : q = i
            · subst e; exact hdi
            · exact hd1 q (by omega)) h79 hf1 hc1
        · have hnd : ndP S1 12 = some (ρ i) := ndP_of hc hdi (fun y hy hyd => by
            obtain ⟨q, hq, e⟩ := hρ2 y hy
            subst e
            rcases Nat.lt_trichotomy q i with h | h | h
            · exact absurd (hd1 q h) hyd
            · subst h; exact kle_refl _ _
            · have := hρ3 i q h hq
              unfold kls at this
              unfold kle
              rw [h79, h79]
              rcases this with h | h
              · exact Or.inl h
              · exact Or.inr ⟨h.1, Nat.le_of_lt h.2⟩)
          have hM2 : mo t μ (zu σ1 t 6 (σ1 t 6 &&& ((1 : Int32) <<< (nI (ρ i) &&& 31) ^^^ (-1)))) π (zu S1 89 (ρ i) 0) := hM1.ud ht (hM1.1.d.no hc (fun j hj => by
            by_cases e : j = ρ i
            · rw [e, zu_eq]; simp
            · rw [zu_n _ _ _ _ (by omega)]; simp [e])) (fun b hb j => zu_ne _ _ _ _ hb j)
          have hM3 := hM2.uw ht (f := 8) (j := 33) (v := S1 67 33 + 1) (Or.inr ⟨rfl, rfl⟩)
          have hX2 : XI (zu S1 89 (ρ i) 0) := hX1.clean
          have hX3 : XI (zu (zu S1 89 (ρ i) 0) 67 33 (S1 67 33 + 1)) := hX2.oth (by decide)
          obtain ⟨f3, hf3, hF3⟩ := hM3.1.fm hc
          cases Option.some.inj (hf.symm.trans hf3)
          have hW3 : WFc (zu (zu S1 89 (ρ i) 0) 67 33 (S1 67 33 + 1)) (ρ i) := WFc_mv (hR1.1 _ hc) (fun j => by rw [zu_ne _ _ _ _ (by decide), zu_ne _ _ _ _ (by decide)]) (fun j => by rw [zu_ne _ _ _ _ (by decide), zu_ne _ _ _ _ (by decide)])
          refine J_iload_n (i := 3) hT dX6_workOutDirtyCells_10 rfl rfl ?_
          refine J_iload_n (i := 2) hT dX6_workOutDirtyCells_11 rfl rfl ?_
          refine J_icmp_ge (tgt := 93) hT dX6_workOutDirtyCells_12 (by decide) (fun q => absurd q (Int32.not_le.mpr (nI_lt (a := i) (b := 12) (by omega) (by decide)))) (fun _ => ?_)
          refine J_aload_n (i := 1) hT dX6_workOutDirtyCells_15 rfl rfl ?_
          refine J_iload_n (i := 3) hT dX6_workOutDirtyCells_16 rfl rfl ?_
          refine R_aald1 hT dX6_workOutDirtyCells_17 hB.k4 (by decide) hB.l4 (by first | exact ⟨rfl, by decide⟩ | exact zix_nI (by omega) (by decide) | assumption) hpc ?_
          refine S_astore4 hT dX6_workOutDirtyCells_18 rfl ?_
          refine J_aload_n (i := 0) hT dX6_workOutDirtyCells_20 rfl rfl ?_
          refine R_getI hT fX6_45 rfl dX6_workOutDirtyCells_21 hB.k ?_
          refine J_if_ne (tgt := 28) hT dX6_workOutDirtyCells_24 (by decide) (fun _ => ?_) (fun q => absurd q (hz))
          refine J_aload_n (i := 0) hT dX6_workOutDirtyCells_28 rfl rfl ?_
          refine R_getI hT fX6_45 rfl dX6_workOutDirtyCells_29 hB.k ?_
          refine J_aload (i := 4) hT dX6_workOutDirtyCells_32 rfl ?_
          refine R_getI hT fX6_130 rfl dX6_workOutDirtyCells_34 (hB1.kc hc) ?_
          refine J_topil (hM1.1.nc hc) ?_
          refine R_callS1 hY dX6_workOutDirtyCells_37 mfX8_has mtX8_has kX6_184 (c_X8_has hZ (by omega)) rfl (by decide) rfl rfl (Nat.le_of_ble_eq_true rfl) (Nat.le_refl _) (Nat.le_refl _) ?_
          refine J_if_eq (tgt := 87) hT dX6_workOutDirtyCells_40 (by decide) (fun q => absurd q ((by rw [hbd]; simp [hdi, zbi]))) (fun _ => ?_)
          refine J_aload_n (i := 0) hT dX6_workOutDirtyCells_43 rfl rfl ?_
          refine J_dup hT dX6_workOutDirtyCells_44 rfl ?_
          refine R_getI hT fX6_45 rfl dX6_workOutDirtyCells_45 hB.k ?_
          refine J_aload (i := 4) hT dX6_workOutDirtyCells_48 rfl ?_
          refine R_getI hT fX6_130 rfl dX6_workOutDirtyCells_50 (hB1.kc hc) ?_
          refine J_topil (hM1.1.nc hc) ?_
          refine R_callS1 hY dX6_workOutDirtyCells_53 mfX8_bit mtX8_bit kX6_83 (c_X8_bit hZ) rfl (by decide) rfl rfl (Nat.le_of_ble_eq_true rfl) (Nat.le_refl _) (Nat.le_refl _) ?_
          refine J_iconst (v := -1) hT dX6_workOutDirtyCells_56 rfl ?_
          refine J_ixor hT dX6_workOutDirtyCells_57 ?_
          refine J_iand hT dX6_workOutDirtyCells_58 ?_
          refine R_putI hT fX6_45 rfl rfl dX6_workOutDirtyCells_59 hB.k ?_
          refine J_aload_n (i := 0) hT dX6_workOutDirtyCells_62 rfl rfl ?_
          refine J_dup hT dX6_workOutDirtyCells_63 rfl ?_
          refine R_getI hT fX6_52 rfl dX6_workOutDirtyCells_64 hB.k ?_
          refine J_topil ((zu_n _ _ _ _ (by omega)).trans hM1.1.wk) ?_
          refine J_iconst (v := 1) hT dX6_workOutDirtyCells_67 rfl ?_
          refine J_iadd hT dX6_workOutDirtyCells_68 ?_
          refine R_putI hT fX6_52 rfl rfl dX6_workOutDirtyCells_69 hB.k ?_
          refine J_aload_n (i := 0) hT dX6_workOutDirtyCells_72 rfl rfl ?_
          refine J_aload (i := 4) hT dX6_workOutDirtyCells_73 rfl ?_
          refine J_aload_n (i := 0) hT dX6_workOutDirtyCells_75 rfl rfl ?_
          refine J_aload (i := 4) hT dX6_workOutDirtyCells_76 rfl ?_
          refine R_getP hT fX6_62 rfl dX6_workOutDirtyCells_78 (hB1.kc hc) hf ?_
          refine J_callV (ci := 6) hY dX6_workOutDirtyCells_81 mfX6_valueOf miX6_valueOf msX6_valueOf kX6_188 ⟨by decide, rfl⟩ hB.k (c_X6_valueOf hZ hO ht hM3 hX3 hF3 hW3.1) rfl (by decide) rfl rfl (Nat.le_of_ble_eq_true rfl) (Nat.le_refl _) (Nat.le_refl _) (fun r1 μ1 hq1 => ?_)
          obtain ⟨rfl, σ3, rfl, hs3⟩ := hq1
          refine J_callV (ci := 6) hY dX6_workOutDirtyCells_84 mfX6_setValue miX6_setValue msX6_setValue kX6_133 ⟨by decide, rfl⟩ hB.k (c_X6_setValue hZ ht (hM3.row ht hs3) hc) rfl (by decide) rfl rfl (Nat.le_of_ble_eq_true rfl) (Nat.le_refl _) (Nat.le_refl _) (fun r2 μ2 hq2 => ?_)
          obtain ⟨rfl, σ4, π4, rfl, hM4, hf4, rfl, hc4⟩ := hq2
          refine S_iinc3 hT dX6_workOutDirtyCells_87 (nI_inc _) rfl ?_
          refine J_goto (tgt := 10) hT dX6_workOutDirtyCells_90 (by decide) ?_
          refine J_L (L' := [_, _, _, _, none]) (zsub_keep (zsub_keep (zsub_keep (zsub_keep (zsub_drop zsub_nil))))) ?_
          have hwk : ∀ b j, ¬ (b = 67 ∧ j = 44) → wkS S1 (ρ i) b j = becomeF (zu (zu S1 89 (ρ i) 0) 67 33 (S1 67 33 + 1)) (ρ i) (worthN (zu (zu S1 89 (ρ i) 0) 67 33 (S1 67 33 + 1)) (ρ i)) b j := by
            intro b j hbj
            unfold wkS becomeF
            rw [zu_ne _ _ _ _ (by decide : 88 ≠ 67)]
            split
            · rw [zu_n _ _ _ _ hbj]
            · unfold soilF soilP
              simp only [zu]
              by_cases e : b = 67
              · subst e
                have : ¬ j = 44 := fun q => hbj ⟨rfl, q⟩
                simp [this]
              · simp [e]
          have hh : S1 80 (ρ i) = 0 := by
            rcases hX1.2.1 _ hc with e | e
            · exact e
            · exact absurd (hX1.2.2.1 _ hc (by rw [e]; decide)).2 hdi
          refine ih (i + 1) (by omega) σ4 (wkS S1 (ρ i)) (hM4.S hwk) (RI.mv hR1 (zsm_v (wkS_sm S1 (ρ i))) ?_) (hX1.wk hc hdi (hR1.1 _ hc)) ((worksF_some hR1.2.1 hnd).symm.trans hw1) (fun q hq => ?_) (fun c => (wkS_sm S1 (ρ i) 79 c (by decide) (by decide) (by decide)).trans (h79 c)) ?_ ?_
          · intro k hk h3
            rw [wkS_sm S1 (ρ i) 92 k (by decide) (by decide) (by decide)] at h3
            rw [wkS_sm S1 (ρ i) 95 k (by decide) (by decide) (by decide), wkS_sm S1 (ρ i) 96 k (by decide) (by decide) (by decide)]
            exact hR1.2.2.2 k hk h3
          · apply Classical.byContradiction
            intro hd
            have hq12 : q < 12 := by omega
            obtain ⟨k1, k2⟩ := wkS_dirty hR1.2.1 hnd (hρ1 q hq12).1 hd
            have hlt : q < i := by
              rcases Nat.lt_or_eq_of_le (Nat.le_of_lt_succ hq) with h | h
              · exact h
              · exact absurd (by rw [h]) k2
            have := hρ3 q i hlt hi12
            unfold kls at this
            unfold kle at k1
            rw [h79, h79] at k1
            rcases this with h | h <;> rcases k1 with g | g
            · exact absurd (Int32.lt_trans h g) Int32.lt_irrefl
            · rw [g.1] at h; exact absurd h Int32.lt_irrefl
            · rw [h.1] at g; exact absurd g Int32.lt_irrefl
            · omega
          · exact hf1.tr ((zfT_u (Or.inl rfl)).tr ((zfT_u (Or.inl rfl)).tr (zfT.tr (fun b j q => hs3 b j (fun e => q (Or.inr (Or.inl e)))) hf4)))
          · exact hc1.tr ((zch_u (by decide)).tr ((zch_u (by decide)).tr (zch.tr (fun j hj => hs3 _ _ (by omega)) hc4)))
  refine J_aload_n (i := 0) hT dX6_workOutDirtyCells_0 rfl rfl ?_
  refine R_getP hT fX6_26 rfl dX6_workOutDirtyCells_1 hB.k hB.p2 ?_
  refine S_astore1 hT dX6_workOutDirtyCells_4 rfl rfl ?_
  refine J_aload_n (i := 1) hT dX6_workOutDirtyCells_5 rfl rfl ?_
  refine R_alen hT dX6_workOutDirtyCells_6 (by rw [hB.k4]; decide) hB.l4 ?_
  refine S_istore2 hT dX6_workOutDirtyCells_7 rfl rfl ?_
  refine J_iconst (v := 0) hT dX6_workOutDirtyCells_8 rfl ?_
  refine S_istore3 hT dX6_workOutDirtyCells_9 rfl rfl ?_
  exact loop 12 0 rfl σ S hM hR hX rfl (fun q hq => absurd hq (by omega)) (fun _ => rfl) zfT.rf zch.rf


