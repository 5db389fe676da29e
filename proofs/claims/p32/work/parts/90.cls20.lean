/-- the zero formula of a table -/
def zZf (t : Nat) (μ : zMem) (σ : zS2) (π : zP2) : Prop := zK μ (t + 1) = 1 + 8 ∧ π (t + 1) 0 = some (t + 2) ∧ zK μ (t + 2) = 0 ∧ zL μ (t + 2) = 1 ∧ σ (t + 2) 0 = 0 ∧ σ (t + 1) 1 = 0
theorem Im1 {t : Nat} (ht : ta t) : Im (t + 1) ∧ Im (t + 2) := by unfold ta at ht; unfold Im; omega
theorem zZf.mv {t : Nat} {μ μ' : zMem} {σ σ' : zS2} {π π' : zP2} (h : zZf t μ σ π) (hn : t + 2 < zN μ) (hg : zgr μ μ') (hs : ∀ b, b = t + 1 ∨ b = t + 2 → ∀ j, σ' b j = σ b j) (hp : ∀ b, b = t + 1 ∨ b = t + 2 → ∀ j, π' b j = π b j) : zZf t μ' σ' π' := by
  obtain ⟨h1, h2, h3, h4, h5, h6⟩ := h
  exact ⟨by rw [(hg.2 _ (by omega)).1]; exact h1, by rw [hp _ (Or.inl rfl)]; exact h2, by rw [(hg.2 _ hn).1]; exact h3, by rw [(hg.2 _ hn).2]; exact h4, by rw [hs _ (Or.inr rfl)]; exact h5, by rw [hs _ (Or.inl rfl)]; exact h6⟩
def clSv (σ : zS2) (a : Nat) : zS2 := fun b j => if b = a ∧ 1 ≤ j ∧ j ≤ 10 then (if j = 2 ∨ j = 3 ∨ j = 7 then -1 else 0) else σ b j
theorem clSv_eq (σ : zS2) (a : Nat) : zu (zu (zu (zu (zu (zu (zu (zu (zu (zu σ a 1 0) a 2 (-1)) a 3 (-1)) a 4 0) a 5 0) a 6 0) a 7 (-1)) a 8 0) a 9 0) a 10 0 = clSv σ a := by
  funext b j
  unfold clSv
  simp only [zu]
  by_cases hb : b = a
  · subst hb
    match j with
    | 0 => simp
    | 1 => simp
    | 2 => simp
    | 3 => simp
    | 4 => simp
    | 5 => simp
    | 6 => simp
    | 7 => simp
    | 8 => simp
    | 9 => simp
    | 10 => simp
    | j + 11 => simp
  · simp [hb]

set_option maxRecDepth 100000 in
set_option maxHeartbeats 4000000 in
theorem c_X4_clear {l : Launch} {Z : zZ} (hZ : zSt l Z) {μ : zMem} {σ : zS2} {π : zP2} {g : zG2} {a : Nat} (ha : zK μ a = 4 + 8) : zCt l Z mX4_clear 0 0 0 [.ref a] (zA4 μ σ π g) (fun r μ' => r = none ∧ μ' = zA4 μ (clSv σ a) π g) := by
  refine zCt_of hZ mpX4_clear (Nat.le_of_ble_eq_true rfl) (L := [some (.ref a)]) rfl (fun τ hY => ?_)
  have hT := hY.1
  refine J_aload_n (i := 0) hT dX4_clear_0 rfl rfl ?_
  refine J_iconst (v := 0) hT dX4_clear_1 rfl ?_
  refine R_putI hT fX4_9 rfl rfl dX4_clear_2 ha ?_
  refine J_aload_n (i := 0) hT dX4_clear_5 rfl rfl ?_
  refine J_iconst (v := -1) hT dX4_clear_6 rfl ?_
  refine R_putI hT fX4_15 rfl rfl dX4_clear_7 ha ?_
  refine J_aload_n (i := 0) hT dX4_clear_10 rfl rfl ?_
  refine J_iconst (v := -1) hT dX4_clear_11 rfl ?_
  refine R_putI hT fX4_18 rfl rfl dX4_clear_12 ha ?_
  refine J_aload_n (i := 0) hT dX4_clear_15 rfl rfl ?_
  refine J_iconst (v := 0) hT dX4_clear_16 rfl ?_
  refine R_putI hT fX4_21 rfl rfl dX4_clear_17 ha ?_
  refine J_aload_n (i := 0) hT dX4_clear_20 rfl rfl ?_
  refine J_iconst (v := 0) hT dX4_clear_21 rfl ?_
  refine R_putI hT fX4_24 rfl rfl dX4_clear_22 ha ?_
  refine J_aload_n (i := 0) hT dX4_clear_25 rfl rfl ?_
  refine J_iconst (v := 0) hT dX4_clear_26 rfl ?_
  refine R_putI hT fX4_27 rfl rfl dX4_clear_27 ha ?_
  refine J_aload_n (i := 0) hT dX4_clear_30 rfl rfl ?_
  refine J_iconst (v := -1) hT dX4_clear_31 rfl ?_
  refine R_putI hT fX4_30 rfl rfl dX4_clear_32 ha ?_
  refine J_aload_n (i := 0) hT dX4_clear_35 rfl rfl ?_
  refine J_iconst (v := 0) hT dX4_clear_36 rfl ?_
  refine R_putI hT fX4_33 rfl rfl dX4_clear_37 ha ?_
  refine J_aload_n (i := 0) hT dX4_clear_40 rfl rfl ?_
  refine J_iconst (v := 0) hT dX4_clear_41 rfl ?_
  refine R_putI hT fX4_36 rfl rfl dX4_clear_42 ha ?_
  refine J_aload_n (i := 0) hT dX4_clear_45 rfl rfl ?_
  refine J_iconst (v := 0) hT dX4_clear_46 rfl ?_
  refine R_putI hT fX4_39 rfl rfl dX4_clear_47 ha ?_
  exact J_vret hT dX4_clear_50 rfl (⟨rfl, by rw [clSv_eq]⟩) (Nat.le_refl _) (Nat.le_refl _)

def tsF (σ : zS2) (a b : Nat) : zS2 := zu (zu (zu (zu (zu (zu σ a 2 (σ b 2)) a 3 (σ b 3)) a 4 (σ b 4)) a 5 (σ b 5)) a 6 (σ b 6)) a 7 (σ b 7)

set_option maxRecDepth 100000 in
set_option maxHeartbeats 4000000 in
theorem c_X4_takeSettings {l : Launch} {Z : zZ} (hZ : zSt l Z) {μ : zMem} {σ : zS2} {π : zP2} {g : zG2} {a b : Nat} (ha : zK μ a = 4 + 8) (hb : zK μ b = 4 + 8) (hab : b ≠ a) : zCt l Z mX4_takeSettings 0 0 0 [.ref a, .ref b] (zA4 μ σ π g) (fun r μ' => r = none ∧ μ' = zA4 μ (tsF σ a b) π g) := by
  refine zCt_of hZ mpX4_takeSettings (Nat.le_of_ble_eq_true rfl) (L := [some (.ref a), some (.ref b)]) rfl (fun τ hY => ?_)
  have hT := hY.1
  refine J_aload_n (i := 0) hT dX4_takeSettings_0 rfl rfl ?_
  refine J_aload_n (i := 1) hT dX4_takeSettings_1 rfl rfl ?_
  refine R_getI hT fX4_15 rfl dX4_takeSettings_2 hb ?_
  refine R_putI hT fX4_15 rfl rfl dX4_takeSettings_5 ha ?_
  refine J_aload_n (i := 0) hT dX4_takeSettings_8 rfl rfl ?_
  refine J_aload_n (i := 1) hT dX4_takeSettings_9 rfl rfl ?_
  refine R_getI hT fX4_18 rfl dX4_takeSettings_10 hb ?_
  refine J_topil (zu_n _ _ _ _ (by omega)) ?_
  refine R_putI hT fX4_18 rfl rfl dX4_takeSettings_13 ha ?_
  refine J_aload_n (i := 0) hT dX4_takeSettings_16 rfl rfl ?_
  refine J_aload_n (i := 1) hT dX4_takeSettings_17 rfl rfl ?_
  refine R_getI hT fX4_21 rfl dX4_takeSettings_18 hb ?_
  refine J_topil ((zu_n _ _ _ _ (by omega)).trans (zu_n _ _ _ _ (by omega))) ?_
  refine R_putI hT fX4_21 rfl rfl dX4_takeSettings_21 ha ?_
  refine J_aload_n (i := 0) hT dX4_takeSettings_24 rfl rfl ?_
  refine J_aload_n (i := 1) hT dX4_takeSettings_25 rfl rfl ?_
  refine R_getI hT fX4_24 rfl dX4_takeSettings_26 hb ?_
  refine J_topil ((zu_n _ _ _ _ (by omega)).trans ((zu_n _ _ _ _ (by omega)).trans (zu_n _ _ _ _ (by omega)))) ?_
  refine R_putI hT fX4_24 rfl rfl dX4_takeSettings_29 ha ?_
  refine J_aload_n (i := 0) hT dX4_takeSettings_32 rfl rfl ?_
  refine J_aload_n (i := 1) hT dX4_takeSettings_33 rfl rfl ?_
  refine R_getI hT fX4_27 rfl dX4_takeSettings_34 hb ?_
  refine J_topil ((zu_n _ _ _ _ (by omega)).trans ((zu_n _ _ _ _ (by omega)).trans ((zu_n _ _ _ _ (by omega)).trans (zu_n _ _ _ _ (by omega))))) ?_
  refine R_putI hT fX4_27 rfl rfl dX4_takeSettings_37 ha ?_
  refine J_aload_n (i := 0) hT dX4_takeSettings_40 rfl rfl ?_
  refine J_aload_n (i := 1) hT dX4_takeSettings_41 rfl rfl ?_
  refine R_getI hT fX4_30 rfl dX4_takeSettings_42 hb ?_
  refine J_topil ((zu_n _ _ _ _ (by omega)).trans ((zu_n _ _ _ _ (by omega)).trans ((zu_n _ _ _ _ (by omega)).trans ((zu_n _ _ _ _ (by omega)).trans (zu_n _ _ _ _ (by omega)))))) ?_
  refine R_putI hT fX4_30 rfl rfl dX4_takeSettings_45 ha ?_
  exact J_vret hT dX4_takeSettings_48 rfl (⟨rfl, rfl⟩) (Nat.le_refl _) (Nat.le_refl _)

def czF (f : Nat) : Int32 := if f = 2 ∨ f = 3 ∨ f = 7 then -1 else 0
def ClI (t : Nat) (σ : zS2) (π : zP2) (i j k : Nat) (σ1 : zS2) (π1 : zP2) : Prop := zNm t σ1 ∧ zfT t σ σ1 ∧ zfP t π π1 ∧ (∀ c, c < i → π1 (t + 8 + c) 1 = some (t + 1) ∧ σ1 (t + 8 + c) 2 = 0 ∧ σ1 (t + 8 + c) 4 = 0) ∧ (∀ r, r < j → σ1 (t + 20 + r) 0 = 0 ∧ σ1 (t + 20 + r) 1 = -1) ∧ ∀ s, s < k → ∀ f, 1 ≤ f → f ≤ 10 → σ1 (t + 25 + s) f = czF f
theorem beginF_v (S : zS2) : (∀ c, c < 12 → beginF S 88 c = 0 ∧ beginF S 89 c = 0 ∧ beginF S 80 c = 0 ∧ beginF S 79 c = 0 ∧ beginF S 75 c = 1 ∧ beginF S 76 c = 0 ∧ beginF S 77 c = 0 ∧ beginF S 78 c = 0 ∧ beginF S 74 (30 * c + 0) = 0)
    ∧ (∀ s, s < 5 → beginF S 90 s = 0 ∧ beginF S 91 s = -1 ∧ beginF S 92 s = 0 ∧ beginF S 82 s = -1 ∧ beginF S 83 s = -1 ∧ beginF S 84 s = 0 ∧ beginF S 85 s = 0 ∧ beginF S 86 s = 0 ∧ beginF S 87 s = -1 ∧ beginF S 95 s = 0 ∧ beginF S 96 s = 0 ∧ beginF S 97 s = 0) ∧ beginF S 67 33 = 0 ∧ beginF S 67 34 = 0 := by
  refine ⟨fun c hc => ⟨?_, ?_, ?_, ?_, ?_, ?_, ?_, ?_, ?_⟩, fun s hs => ⟨?_, ?_, ?_, ?_, ?_, ?_, ?_, ?_, ?_, ?_, ?_, ?_⟩, ?_, ?_⟩
  all_goals simp [beginF, beD, clearF, clS, clP, beS, beP, zu, *]
theorem beginF_DX (S : zS2) : DX (beginF S) := by
  intro k hk
  have h := (beginF_v S).1 k hk
  refine ⟨⟨0, by omega, h.2.2.2.1⟩, ?_⟩
  have : ∀ n, dpI (beginF S) k n = 0 := by
    intro n
    induction n with
    | zero => rfl
    | succ n ih => rw [dpI, ih, h.2.2.2.2.2.1, b_0, if_neg (fun q => absurd q.1 (by decide))]
  rw [this, h.2.2.2.1]
theorem zFo_0 {t : Nat} (ht : ta t) {μ : zMem} {σ : zS2} {π : zP2} (h : zZf t μ σ π) (hn : t + 30 ≤ zN μ) (S : zS2) {c : Nat} (hc : c < 12) : zFo μ σ π (t + 1) (cdw (beginF S) c) (cdn (beginF S) c) (beginF S 76 c) (beginF S 77 c) (beginF S 78 c) := by
  obtain ⟨h1, h2, h3, h4, h5, h6⟩ := h
  obtain ⟨_, _, _, _, g1, g2, g3, g4, g5⟩ := (beginF_v S).1 c hc
  have en : cdn (beginF S) c = 1 := by unfold cdn; rw [g1]; rfl
  rw [en, g2, g3, g4]
  refine ⟨(Im1 ht).1, by omega, h1, fun i _ => by rw [h6], fun i _ => by rw [h6, b_0, b_0], fun i _ => by rw [h6, b_0, b_0], fun i _ => by rw [h6, b_0], t + 2, h2, (Im1 ht).2, by omega, h3, h4, fun k hk => ?_⟩
  have : k = 0 := by omega
  subst this
  rw [h5]
  unfold cdw
  rw [g5]
  rfl

set_option maxRecDepth 100000 in
set_option maxHeartbeats 4000000 in
theorem c_X6_clear {l : Launch} {Z : zZ} (hZ : zSt l Z) {μ : zMem} {σ : zS2} {π : zP2} {g : zG2} {t : Nat} (ht : ta t) (S : zS2) (hB : zTb t μ π) (hnm : zNm t σ) (hz : zZf t μ σ π) : zCt l Z mX6_clear 2 0 0 [.ref t] (zA4 μ σ π g) (fun r μ' => r = none ∧ zE0 t μ σ π g (beginF S) μ') := by
  refine zCt_of hZ mpX6_clear (Nat.le_of_ble_eq_true rfl) (L := [some (.ref t), none, none, none, none]) rfl (fun τ hY => ?_)
  have hT := hY.1
  have hn30 := hB.n
  have loop3 : ∀ n i, i + n = 5 → ∀ σ1 π1, ClI t σ π 12 5 i σ1 π1 → zJ τ (zFn τ (fun r μ' => r = none ∧ zE0 t μ σ π g (beginF S) μ') 0 0) 95 [some (.ref t), some (.ref (t + 6)), some (.int (nI 5)), some (.int (nI i)), none] [] (zA4 μ σ1 π1 g) 0 0 := by
    intro n
    induction n with
    | zero =>
      intro i hi
      have : i = 5 := by omega
      subst this
      intro σ1 π1 hI
      have hB1 : zTb t μ π1 := hB.fp hI.2.2.1
      obtain ⟨⟨m1, m2⟩, m3, m4, m5, m6, m7⟩ := hI
      obtain ⟨b1, b2, b3, b4⟩ := beginF_v S
      have hZ1 : zZf t μ σ1 π1 := hz.mv (by omega) zgr.rf (fun b hb j => m3.im ht (by rcases hb with e | e <;> rw [e]; exact (Im1 ht).1; exact (Im1 ht).2) j) (fun b hb j => m4.im ht (by rcases hb with e | e <;> rw [e]; exact (Im1 ht).1; exact (Im1 ht).2) j)
      obtain ⟨S0, hS0⟩ : ∃ S0 : zS2, S0 = fun b j => if b = 79 then σ1 (t + 8 + j) 3 else beginF S b j := ⟨_, rfl⟩
      have e0 : ∀ b, b ≠ 79 → ∀ j, beginF S b j = S0 b j := fun b hb j => by rw [hS0]; simp [hb]
      have hM1 : mi t μ (zu (zu (zu σ1 t 6 0) t 7 0) t 8 0) π1 S0 := by
        have z : ∀ b j, b ≠ t → zu (zu (zu σ1 t 6 0) t 7 0) t 8 0 b j = σ1 b j := fun b j hb => by rw [zu_ne _ _ _ _ hb, zu_ne _ _ _ _ hb, zu_ne _ _ _ _ hb]
        refine ⟨hB1, ⟨fun q hq => by rw [z _ _ (by omega)]; exact m1 q hq, fun q hq => by rw [z _ _ (by omega)]; exact m2 q hq⟩, fun x hx q hq => ?_, fun q hq => ?_, ?_, ?_, fun s hs h1 => ?_, fun c hc => ?_⟩
        · have hx8 := (lks_f x hx).1
          rw [z _ _ (by omega)]
          unfold lks at hx
          simp only [List.mem_cons, List.not_mem_nil, or_false] at hx
          rcases hx with rfl | rfl | rfl | rfl | rfl | rfl | rfl | rfl | rfl | rfl | rfl | rfl | rfl | rfl | rfl
          · rw [← e0 _ (by decide)]; exact ((m5 q hq).2.1).trans (b1 q hq).1.symm
          · rw [← e0 _ (by decide)]; exact ((m5 q hq).2.2).trans (b1 q hq).2.2.1.symm
          · rw [hS0]; simp
          · rw [← e0 _ (by decide)]; exact ((m6 q hq).1).trans (b2 q hq).1.symm
          · rw [← e0 _ (by decide)]; exact ((m6 q hq).2).trans (b2 q hq).2.1.symm
          · rw [← e0 _ (by decide)]; exact (m7 q hq 1 (by decide) (by decide)).trans (b2 q hq).2.2.1.symm
          · rw [← e0 _ (by decide)]; exact (m7 q hq 2 (by decide) (by decide)).trans (b2 q hq).2.2.2.1.symm
          · rw [← e0 _ (by decide)]; exact (m7 q hq 3 (by decide) (by decide)).trans (b2 q hq).2.2.2.2.1.symm
          · rw [← e0 _ (by decide)]; exact (m7 q hq 4 (by decide) (by decide)).trans (b2 q hq).2.2.2.2.2.1.symm
          · rw [← e0 _ (by decide)]; exact (m7 q hq 5 (by decide) (by decide)).trans (b2 q hq).2.2.2.2.2.2.1.symm
          · rw [← e0 _ (by decide)]; exact (m7 q hq 6 (by decide) (by decide)).trans (b2 q hq).2.2.2.2.2.2.2.1.symm
          · rw [← e0 _ (by decide)]; exact (m7 q hq 7 (by decide) (by decide)).trans (b2 q hq).2.2.2.2.2.2.2.2.1.symm
          · rw [← e0 _ (by decide)]; exact (m7 q hq 8 (by decide) (by decide)).trans (b2 q hq).2.2.2.2.2.2.2.2.2.1.symm
          · rw [← e0 _ (by decide)]; exact (m7 q hq 9 (by decide) (by decide)).trans (b2 q hq).2.2.2.2.2.2.2.2.2.2.1.symm
          · rw [← e0 _ (by decide)]; exact (m7 q hq 10 (by decide) (by decide)).trans (b2 q hq).2.2.2.2.2.2.2.2.2.2.2.symm
        · rw [zu_n _ _ _ _ (by omega), zu_n _ _ _ _ (by omega), zu_eq, b_0]
          by_cases h12 : q < 12
          · rw [← e0 _ (by decide), (b1 q h12).2.1]; simp
          · simp [h12]
        · rw [zu_n _ _ _ _ (by omega), zu_eq, ← e0 _ (by decide), b4]
        · rw [zu_eq, ← e0 _ (by decide), b3]
        · rw [← e0 _ (by decide), (b2 s hs).2.2.1] at h1
          exact absurd h1 (by decide)
        · refine ⟨t + 1, (m5 c hc).1, ?_⟩
          have en : cdn S0 c = cdn (beginF S) c := by unfold cdn; rw [← e0 _ (by decide)]
          rw [en]
          exact (zFo_0 ht hZ1 hn30 S hc).mv zgr.rf (fun b hb _ j => z b j (by have := im_out ht hb; omega)) (fun _ _ _ _ => rfl) (fun k _ => by unfold cdw; rw [← e0 _ (by decide)]) (by rw [← e0 _ (by decide)]) (by rw [← e0 _ (by decide)]) (by rw [← e0 _ (by decide)])
      refine J_iload_n (i := 3) hT dX6_clear_95 rfl rfl ?_
      refine J_iload_n (i := 2) hT dX6_clear_96 rfl rfl ?_
      refine J_icmp_ge (tgt := 116) hT dX6_clear_97 (by decide) (fun _ => ?_) (fun q => absurd (nI_le (a := 5) (b := 5) (by decide) (by decide)) q)
      refine J_aload_n (i := 0) hT dX6_clear_116 rfl rfl ?_
      refine J_iconst (v := 0) hT dX6_clear_117 rfl ?_
      refine R_putI hT fX6_45 rfl rfl dX6_clear_118 hB1.k ?_
      refine J_aload_n (i := 0) hT dX6_clear_121 rfl rfl ?_
      refine J_iconst (v := 0) hT dX6_clear_122 rfl ?_
      refine R_putI hT fX6_49 rfl rfl dX6_clear_123 hB1.k ?_
      refine J_aload_n (i := 0) hT dX6_clear_126 rfl rfl ?_
      refine J_iconst (v := 0) hT dX6_clear_127 rfl ?_
      refine R_putI hT fX6_52 rfl rfl dX6_clear_128 hB1.k ?_
      refine J_aload_n (i := 0) hT dX6_clear_131 rfl rfl ?_
      refine J_callV (ci := 6) hY dX6_clear_132 mfX6_arrange miX6_arrange msX6_arrange kX6_79 ⟨by decide, rfl⟩ hB1.k (c_X6_arrange hZ ht hM1 (S' := beginF S) e0 (beginF_DX S)) rfl (by decide) rfl rfl (Nat.le_of_ble_eq_true rfl) (Nat.le_refl _) (Nat.le_refl _) (fun r1 μ1 hq1 => ?_)
      obtain ⟨rfl, hq2⟩ := hq1
      exact J_vret hT dX6_clear_135 rfl (⟨rfl, hq2.mv (m3.tr ((zfT_u (Or.inl rfl)).tr ((zfT_u (Or.inl rfl)).tr (zfT_u (Or.inl rfl))))) m4⟩) (Nat.le_refl _) (Nat.le_refl _)
    | succ n ih =>
      intro i hi
      intro σ1 π1 hI
      have hB1 : zTb t μ π1 := hB.fp hI.2.2.1
      have hi5 : i < 5 := by omega
      refine J_iload_n (i := 3) hT dX6_clear_95 rfl rfl ?_
      refine J_iload_n (i := 2) hT dX6_clear_96 rfl rfl ?_
      refine J_icmp_ge (tgt := 116) hT dX6_clear_97 (by decide) (fun q => absurd q (Int32.not_le.mpr (nI_lt (a := i) (b := 5) (by omega) (by decide)))) (fun _ => ?_)
      refine J_aload_n (i := 1) hT dX6_clear_100 rfl rfl ?_
      refine J_iload_n (i := 3) hT dX6_clear_101 rfl rfl ?_
      refine R_aald1 hT dX6_clear_102 hB1.k6 (by decide) hB1.l6 (by first | exact ⟨rfl, by decide⟩ | exact zix_nI (by omega) (by decide) | assumption) (hB1.ps hi5) ?_
      refine S_astore4 hT dX6_clear_103 rfl ?_
      refine J_aload (i := 4) hT dX6_clear_105 rfl ?_
      refine R_callV0 (ci := 4) hY dX6_clear_107 mfX4_clear miX4_clear msX4_clear kX6_76 ⟨by decide, rfl⟩ (hB1.ks hi5) (c_X4_clear hZ (hB1.ks hi5)) rfl (by decide) rfl rfl (Nat.le_of_ble_eq_true rfl) (Nat.le_refl _) (Nat.le_refl _) ?_
      refine S_iinc3 hT dX6_clear_110 (nI_inc _) rfl ?_
      refine J_goto (tgt := 95) hT dX6_clear_113 (by decide) ?_
      refine J_L (L' := [_, _, _, _, none]) (zsub_keep (zsub_keep (zsub_keep (zsub_keep (zsub_drop zsub_nil))))) ?_
      obtain ⟨⟨m1, m2⟩, m3, m4, m5, m6, m7⟩ := hI
      have z : ∀ b j, ¬ (b = t + 25 + i ∧ 1 ≤ j ∧ j ≤ 10) → clSv σ1 (t + 25 + i) b j = σ1 b j := fun b j q => by unfold clSv; rw [if_neg q]
      refine ih (i + 1) (by omega) _ _ ⟨⟨fun q hq => ?_, fun q hq => ?_⟩, m3.tr (fun b j q => z b j (fun e => q (e.1 ▸ zmu_s hi5))), m4, fun c hc => ?_, fun r hr => ?_, fun s hs f hf1 hf2 => ?_⟩
      · rw [z _ _ (by omega)]; exact m1 q hq
      · rw [z _ _ (by omega)]; exact m2 q hq
      · rw [z _ _ (by omega), z _ _ (by omega)]; exact m5 c hc
      · rw [z _ _ (by omega), z _ _ (by omega)]; exact m6 r hr
      · by_cases e : s = i
        · subst e; unfold clSv czF; rw [if_pos ⟨rfl, hf1, hf2⟩]
        · rw [z _ _ (by omega)]; exact m7 s (by omega) f hf1 hf2
  have loop2 : ∀ n i, i + n = 5 → ∀ σ1 π1, ClI t σ π 12 i 0 σ1 π1 → zJ τ (zFn τ (fun r μ' => r = none ∧ zE0 t μ σ π g (beginF S) μ') 0 0) 57 [some (.ref t), some (.ref (t + 5)), some (.int (nI 5)), some (.int (nI i)), none] [] (zA4 μ σ1 π1 g) 0 0 := by
    intro n
    induction n with
    | zero =>
      intro i hi
      have : i = 5 := by omega
      subst this
      intro σ1 π1 hI
      have hB1 : zTb t μ π1 := hB.fp hI.2.2.1
      refine J_iload_n (i := 3) hT dX6_clear_57 rfl rfl ?_
      refine J_iload_n (i := 2) hT dX6_clear_58 rfl rfl ?_
      refine J_icmp_ge (tgt := 85) hT dX6_clear_59 (by decide) (fun _ => ?_) (fun q => absurd (nI_le (a := 5) (b := 5) (by decide) (by decide)) q)
      refine J_aload_n (i := 0) hT dX6_clear_85 rfl rfl ?_
      refine R_getP hT fX6_37 rfl dX6_clear_86 hB1.k hB1.p4 ?_
      refine S_astore1 hT dX6_clear_89 rfl rfl ?_
      refine J_aload_n (i := 1) hT dX6_clear_90 rfl rfl ?_
      refine R_alen hT dX6_clear_91 (by rw [hB1.k6]; decide) hB1.l6 ?_
      refine S_istore2 hT dX6_clear_92 rfl rfl ?_
      refine J_iconst (v := 0) hT dX6_clear_93 rfl ?_
      refine S_istore3 hT dX6_clear_94 rfl rfl ?_
      exact loop3 5 0 rfl σ1 π1 hI
    | succ n ih =>
      intro i hi
      intro σ1 π1 hI
      have hB1 : zTb t μ π1 := hB.fp hI.2.2.1
      have hi5 : i < 5 := by omega
      refine J_iload_n (i := 3) hT dX6_clear_57 rfl rfl ?_
      refine J_iload_n (i := 2) hT dX6_clear_58 rfl rfl ?_
      refine J_icmp_ge (tgt := 85) hT dX6_clear_59 (by decide) (fun q => absurd q (Int32.not_le.mpr (nI_lt (a := i) (b := 5) (by omega) (by decide)))) (fun _ => ?_)
      refine J_aload_n (i := 1) hT dX6_clear_62 rfl rfl ?_
      refine J_iload_n (i := 3) hT dX6_clear_63 rfl rfl ?_
      refine R_aald1 hT dX6_clear_64 hB1.k5 (by decide) hB1.l5 (by first | exact ⟨rfl, by decide⟩ | exact zix_nI (by omega) (by decide) | assumption) (hB1.pr hi5) ?_
      refine S_astore4 hT dX6_clear_65 rfl ?_
      refine J_aload (i := 4) hT dX6_clear_67 rfl ?_
      refine J_iconst (v := 0) hT dX6_clear_69 rfl ?_
      refine R_putI hT fX6_72 rfl rfl dX6_clear_70 (hB1.kr hi5) ?_
      refine J_aload (i := 4) hT dX6_clear_73 rfl ?_
      refine J_iconst (v := -1) hT dX6_clear_75 rfl ?_
      refine R_putI hT fX6_73 rfl rfl dX6_clear_76 (hB1.kr hi5) ?_
      refine S_iinc3 hT dX6_clear_79 (nI_inc _) rfl ?_
      refine J_goto (tgt := 57) hT dX6_clear_82 (by decide) ?_
      refine J_L (L' := [_, _, _, _, none]) (zsub_keep (zsub_keep (zsub_keep (zsub_keep (zsub_drop zsub_nil))))) ?_
      obtain ⟨⟨m1, m2⟩, m3, m4, m5, m6, m7⟩ := hI
      have z : ∀ b j, b ≠ t + 20 + i → zu (zu σ1 (t + 20 + i) 0 0) (t + 20 + i) 1 (-1) b j = σ1 b j := fun b j q => by rw [zu_ne _ _ _ _ q, zu_ne _ _ _ _ q]
      refine ih (i + 1) (by omega) _ _ ⟨⟨fun q hq => ?_, fun q hq => ?_⟩, m3.tr (fun b j q => z b j (fun e => q (e ▸ zmu_r hi5))), m4, fun c hc => ?_, fun r hr => ?_, fun s hs f hf1 hf2 => absurd hs (by omega)⟩
      · rw [z _ _ (by omega)]; exact m1 q hq
      · rw [z _ _ (by omega)]; exact m2 q hq
      · rw [z _ _ (by omega), z _ _ (by omega)]; exact m5 c hc
      · by_cases e : r = i
        · subst e; rw [zu_n _ _ _ _ (by omega), zu_eq, zu_eq]; exact ⟨rfl, rfl⟩
        · rw [z _ _ (by omega), z _ _ (by omega)]; exact m6 r (by omega)
  have loop1 : ∀ n i, i + n = 12 → ∀ σ1 π1, ClI t σ π i 0 0 σ1 π1 → zJ τ (zFn τ (fun r μ' => r = none ∧ zE0 t μ σ π g (beginF S) μ') 0 0) 10 [some (.ref t), some (.ref (t + 3)), some (.int (nI 12)), some (.int (nI i)), none] [] (zA4 μ σ1 π1 g) 0 0 := by
    intro n
    induction n with
    | zero =>
      intro i hi
      have : i = 12 := by omega
      subst this
      intro σ1 π1 hI
      have hB1 : zTb t μ π1 := hB.fp hI.2.2.1
      refine J_iload_n (i := 3) hT dX6_clear_10 rfl rfl ?_
      refine J_iload_n (i := 2) hT dX6_clear_11 rfl rfl ?_
      refine J_icmp_ge (tgt := 47) hT dX6_clear_12 (by decide) (fun _ => ?_) (fun q => absurd (nI_le (a := 12) (b := 12) (by decide) (by decide)) q)
      refine J_aload_n (i := 0) hT dX6_clear_47 rfl rfl ?_
      refine R_getP hT fX6_31 rfl dX6_clear_48 hB1.k hB1.p3 ?_
      refine S_astore1 hT dX6_clear_51 rfl rfl ?_
      refine J_aload_n (i := 1) hT dX6_clear_52 rfl rfl ?_
      refine R_alen hT dX6_clear_53 (by rw [hB1.k5]; decide) hB1.l5 ?_
      refine S_istore2 hT dX6_clear_54 rfl rfl ?_
      refine J_iconst (v := 0) hT dX6_clear_55 rfl ?_
      refine S_istore3 hT dX6_clear_56 rfl rfl ?_
      exact loop2 5 0 rfl σ1 π1 hI
    | succ n ih =>
      intro i hi
      intro σ1 π1 hI
      have hB1 : zTb t μ π1 := hB.fp hI.2.2.1
      have hi12 : i < 12 := by omega
      refine J_iload_n (i := 3) hT dX6_clear_10 rfl rfl ?_
      refine J_iload_n (i := 2) hT dX6_clear_11 rfl rfl ?_
      refine J_icmp_ge (tgt := 47) hT dX6_clear_12 (by decide) (fun q => absurd q (Int32.not_le.mpr (nI_lt (a := i) (b := 12) (by omega) (by decide)))) (fun _ => ?_)
      refine J_aload_n (i := 1) hT dX6_clear_15 rfl rfl ?_
      refine J_iload_n (i := 3) hT dX6_clear_16 rfl rfl ?_
      refine R_aald1 hT dX6_clear_17 hB1.k3 (by decide) hB1.l3 (by first | exact ⟨rfl, by decide⟩ | exact zix_nI (by omega) (by decide) | assumption) (hB1.pc hi12) ?_
      refine S_astore4 hT dX6_clear_18 rfl ?_
      refine J_aload (i := 4) hT dX6_clear_20 rfl ?_
      refine J_aload_n (i := 0) hT dX6_clear_22 rfl rfl ?_
      refine R_getP hT fX6_14 rfl dX6_clear_23 hB1.k hB1.p0 ?_
      refine R_putP hT fX6_62 rfl rfl dX6_clear_26 (hB1.kc hi12) ?_
      refine J_aload (i := 4) hT dX6_clear_29 rfl ?_
      refine J_iconst (v := 0) hT dX6_clear_31 rfl ?_
      refine R_putI hT fX6_65 rfl rfl dX6_clear_32 (hB1.kc hi12) ?_
      refine J_aload (i := 4) hT dX6_clear_35 rfl ?_
      refine J_iconst (v := 0) hT dX6_clear_37 rfl ?_
      refine R_putZ hT fX6_68 rfl rfl (by decide) dX6_clear_38 (hB1.kc hi12) ?_
      refine S_iinc3 hT dX6_clear_41 (nI_inc _) rfl ?_
      refine J_goto (tgt := 10) hT dX6_clear_44 (by decide) ?_
      refine J_L (L' := [_, _, _, _, none]) (zsub_keep (zsub_keep (zsub_keep (zsub_keep (zsub_drop zsub_nil))))) ?_
      obtain ⟨⟨m1, m2⟩, m3, m4, m5, m6, m7⟩ := hI
      have z : ∀ b j, ¬ (b = t + 8 + i ∧ (j = 2 ∨ j = 4)) → zu (zu σ1 (t + 8 + i) 2 0) (t + 8 + i) 4 0 b j = σ1 b j := fun b j q => by rw [zu_n _ _ _ _ (by omega), zu_n _ _ _ _ (by omega)]
      refine ih (i + 1) (by omega) _ _ ⟨⟨fun q hq => ?_, fun q hq => ?_⟩, m3.tr (fun b j q => z b j (fun e => q (e.1 ▸ zmu_c hi12))), m4.tr (zfP_u (Or.inr ⟨by omega, by omega, rfl⟩)), fun c hc => ?_, fun r hr => absurd hr (by omega), fun s hs f hf1 hf2 => absurd hs (by omega)⟩
      · rw [z _ _ (by omega)]; exact m1 q hq
      · rw [z _ _ (by omega)]; exact m2 q hq
      · by_cases e : c = i
        · subst e; rw [zup_eq, zu_n _ _ _ _ (by omega), zu_eq, zu_eq]; exact ⟨rfl, rfl, rfl⟩
        · rw [zup_n _ _ _ _ (by omega), z _ _ (by omega), z _ _ (by omega)]; exact m5 c (by omega)
  have hB1 : zTb t μ π := hB
  refine J_aload_n (i := 0) hT dX6_clear_0 rfl rfl ?_
  refine R_getP hT fX6_22 rfl dX6_clear_1 hB1.k hB1.p1 ?_
  refine S_astore1 hT dX6_clear_4 rfl rfl ?_
  refine J_aload_n (i := 1) hT dX6_clear_5 rfl rfl ?_
  refine R_alen hT dX6_clear_6 (by rw [hB1.k3]; decide) hB1.l3 ?_
  refine S_istore2 hT dX6_clear_7 rfl rfl ?_
  refine J_iconst (v := 0) hT dX6_clear_8 rfl ?_
  refine S_istore3 hT dX6_clear_9 rfl rfl ?_
  exact loop1 12 0 rfl σ π ⟨hnm, zfT.rf, zfP.rf, fun c hc => absurd hc (by omega), fun r hr => absurd hr (by omega), fun s hs => absurd hs (by omega)⟩


