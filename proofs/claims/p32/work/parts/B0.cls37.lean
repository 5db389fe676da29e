/-- the text changes, and nothing else -/
theorem CW.text {n : Nat} {S S' : zS2} {μ : zMem} {σ σ' : zS2} {π : zP2} (h : CW n S μ σ π) (hf : ∀ b j, b ≠ 1 → b ≠ 2 → σ' b j = σ b j) (hS : ∀ b j, b ≠ 68 → ¬ (b = 67 ∧ j = 1) → S' b j = S b j) (h1 : σ' 1 1 = S' 67 1) (h2 : ∀ i, i < 30 → σ' 2 i = S' 68 i) : CW n S' μ σ' π := by
  have hn := h.nn
  have io : ∀ b, Io b ∨ Im b → b ≠ 1 ∧ b ≠ 2 := fun b hb => by unfold Io Im at hb; omega
  have f : ∀ b, b ≠ 1 ∧ b ≠ 2 → ∀ j, σ' b j = σ b j := fun b hb j => hf b j hb.1 hb.2
  have s : ∀ b, b ≠ 68 → b ≠ 67 → ∀ j, S' b j = S b j := fun b hb hb2 j => hS b j hb (fun q => hb2 q.1)
  have hm : mo 5 μ σ' π S := ⟨h.m.1.fr zgr.rf (fun b hb j => f b (hb.elim (fun q => ⟨by omega, by omega⟩) (fun q => io b (Or.inr q.1))) j) (fun _ _ _ => rfl), h.m.2⟩
  refine ⟨h.1, ⟨h.t35.1, ⟨fun i hi => (f _ (by omega) _).trans (h.t35.2.1.1 i hi), fun i hi => (f _ (by omega) _).trans (h.t35.2.1.2 i hi)⟩, h.t35.2.2.mv (by omega) zgr.rf (fun b hb j => f b (by omega) j) (fun _ _ _ => rfl)⟩, h.z5.mv (by omega) zgr.rf (fun b hb j => f b (by omega) j) (fun _ _ _ => rfl), ?_, (f 0 (by decide) _).trans h.ct, fun k hk => ?_, ⟨(f 66 (by decide) _).trans h.one.1, (f 66 (by decide) _).trans h.one.2⟩, h1, h2⟩
  · have sl : ∀ x, x ∈ lks → x.2.2.2 ≠ 68 ∧ x.2.2.2 ≠ 67 := by decide
    refine ⟨hm.1.S (fun x hx k _ => s _ (sl x hx).1 (sl x hx).2 k) (fun i _ => by rw [s 89 (by decide) (by decide)]) (hS 67 34 (by decide) (by decide)) (hS 67 33 (by decide) (by decide)) (fun i _ _ => ⟨s 93 (by decide) (by decide) i, s 94 (by decide) (by decide) i⟩) (fun c _ => ⟨s 75 (by decide) (by decide) c, s 76 (by decide) (by decide) c, s 77 (by decide) (by decide) c, s 78 (by decide) (by decide) c, fun k _ => s 74 (by decide) (by decide) _⟩), hm.2.mv (fun _ => rfl) (fun c _ => s 79 (by decide) (by decide) c)⟩
  · obtain ⟨sp, e, hsp⟩ := h.st hk
    exact ⟨sp, e, hsp.mv zgr.rf (fun b hb _ j => f b (io b hb) j) (fun _ _ _ _ => rfl) (fun b hb => s b (by simp only [List.mem_cons, List.not_mem_nil, or_false] at hb; omega) (by simp only [List.mem_cons, List.not_mem_nil, or_false] at hb; omega) _) (fun _ _ => s 103 (by decide) (by decide) _)⟩
/-- only the text changes -/
def zPf2 (σ σ' : zS2) : Prop := ∀ b j, b ≠ 1 → b ≠ 2 → σ' b j = σ b j
theorem zu_off {σ : zS2} {a i b j : Nat} {v : Int32} (h : ¬ (b = a ∧ j = i)) : zu σ a i v b j = σ b j := by
  unfold zu
  exact if_neg h
theorem chV_n {v : Int32} (h : chV v) : vp_nar .char v = v := by
  unfold chV narrow at h
  injection h with h
set_option maxRecDepth 100000 in
set_option maxHeartbeats 4000000 in
theorem c_X7_isFull1 {l : Launch} {Z : zZ} (hZ : zSt l Z) {μ : zMem} {σ : zS2} {π : zP2} {g : zG2} {S : zS2} {L : Nat} (hH : zPh μ π) (hX : zTx S L σ) (hL : 30 ≤ L) : zCt l Z mX7_isFull 0 0 0 [.ref 1] (zA4 μ σ π g) (fun r μ' => r = some (.int 1) ∧ μ' = zA4 μ σ π g) := by
  refine zCt_of hZ mpX7_isFull (Nat.le_of_ble_eq_true rfl) (L := [some (.ref 1)]) rfl (fun τ hY => ?_)
  have hT := hY.1
  have h30 := hX.2.1
  refine J_aload_n (i := 0) hT dX7_isFull_0 rfl rfl ?_
  refine R_getI hT fX7_15 rfl dX7_isFull_1 hH.k1 ?_
  refine J_topil (hX.1) ?_
  refine J_aload_n (i := 0) hT dX7_isFull_4 rfl rfl ?_
  refine R_getP hT fX7_9 rfl dX7_isFull_5 hH.k1 hH.q1 ?_
  refine R_alen hT dX7_isFull_8 (by rw [hH.k2]; decide) hH.l2 ?_
  refine J_icmp_lt (tgt := 16) hT dX7_isFull_9 (by decide) (fun q => absurd q (Int32.not_lt.mpr (nI_le (a := 30) (b := L) hL (by omega)))) (fun _ => ?_)
  refine J_iconst (v := 1) hT dX7_isFull_12 rfl ?_
  refine J_goto (tgt := 17) hT dX7_isFull_13 (by decide) ?_
  exact J_iret hT dX7_isFull_17 rfl rfl (⟨rfl, rfl⟩) (Nat.le_refl _) (Nat.le_refl _)

set_option maxRecDepth 100000 in
set_option maxHeartbeats 4000000 in
theorem c_X7_isFull0 {l : Launch} {Z : zZ} (hZ : zSt l Z) {μ : zMem} {σ : zS2} {π : zP2} {g : zG2} {S : zS2} {L : Nat} (hH : zPh μ π) (hX : zTx S L σ) (hL : L < 30) : zCt l Z mX7_isFull 0 0 0 [.ref 1] (zA4 μ σ π g) (fun r μ' => r = some (.int 0) ∧ μ' = zA4 μ σ π g) := by
  refine zCt_of hZ mpX7_isFull (Nat.le_of_ble_eq_true rfl) (L := [some (.ref 1)]) rfl (fun τ hY => ?_)
  have hT := hY.1
  have h30 := hX.2.1
  refine J_aload_n (i := 0) hT dX7_isFull_0 rfl rfl ?_
  refine R_getI hT fX7_15 rfl dX7_isFull_1 hH.k1 ?_
  refine J_topil (hX.1) ?_
  refine J_aload_n (i := 0) hT dX7_isFull_4 rfl rfl ?_
  refine R_getP hT fX7_9 rfl dX7_isFull_5 hH.k1 hH.q1 ?_
  refine R_alen hT dX7_isFull_8 (by rw [hH.k2]; decide) hH.l2 ?_
  refine J_icmp_lt (tgt := 16) hT dX7_isFull_9 (by decide) (fun _ => ?_) (fun q => absurd (nI_lt (a := L) (b := 30) hL (by decide)) q)
  refine J_iconst (v := 0) hT dX7_isFull_16 rfl ?_
  exact J_iret hT dX7_isFull_17 rfl rfl (⟨rfl, rfl⟩) (Nat.le_refl _) (Nat.le_refl _)

set_option maxRecDepth 100000 in
set_option maxHeartbeats 4000000 in
theorem c_X7_add {l : Launch} {Z : zZ} (hZ : zSt l Z) {μ : zMem} {σ : zS2} {π : zP2} {g : zG2} {S : zS2} {L : Nat} (hH : zPh μ π) (hX : zTx S L σ) (hL : L < 30) {v : Int32} (hv : chV v) : zCt l Z mX7_add 0 0 0 [.ref 1, .int v] (zA4 μ σ π g) (fun r μ' => r = none ∧ μ' = zA4 μ (zu (zu σ 2 L v) 1 1 (nI (L + 1))) π g) := by
  refine zCt_of hZ mpX7_add (Nat.le_of_ble_eq_true rfl) (L := [some (.ref 1), some (.int v)]) rfl (fun τ hY => ?_)
  have hT := hY.1
  refine J_aload_n (i := 0) hT dX7_add_0 rfl rfl ?_
  refine R_getI hT fX7_15 rfl dX7_add_1 hH.k1 ?_
  refine J_topil (hX.1) ?_
  refine J_if_lt (tgt := 39) hT dX7_add_4 (by decide) (fun q => absurd q (Int32.not_lt.mpr (nI_le (a := 0) (b := L) (by omega) (by omega)))) (fun _ => ?_)
  refine J_aload_n (i := 0) hT dX7_add_7 rfl rfl ?_
  refine R_getI hT fX7_15 rfl dX7_add_8 hH.k1 ?_
  refine J_topil (hX.1) ?_
  refine J_aload_n (i := 0) hT dX7_add_11 rfl rfl ?_
  refine R_getP hT fX7_9 rfl dX7_add_12 hH.k1 hH.q1 ?_
  refine R_alen hT dX7_add_15 (by rw [hH.k2]; decide) hH.l2 ?_
  refine J_icmp_ge (tgt := 39) hT dX7_add_16 (by decide) (fun q => absurd q (Int32.not_le.mpr (nI_lt (a := L) (b := 30) hL (by decide)))) (fun _ => ?_)
  refine J_aload_n (i := 0) hT dX7_add_19 rfl rfl ?_
  refine R_getP hT fX7_9 rfl dX7_add_20 hH.k1 hH.q1 ?_
  refine J_aload_n (i := 0) hT dX7_add_23 rfl rfl ?_
  refine R_getI hT fX7_15 rfl dX7_add_24 hH.k1 ?_
  refine J_topil (hX.1) ?_
  refine J_iload_n (i := 1) hT dX7_add_27 rfl rfl ?_
  refine R_cast hT dX7_add_28 hH.k2 hH.l2 (by first | exact ⟨rfl, by decide⟩ | exact zix_nI (by omega) (by decide) | assumption) (chV_n hv) ?_
  refine J_aload_n (i := 0) hT dX7_add_29 rfl rfl ?_
  refine J_dup hT dX7_add_30 rfl ?_
  refine R_getI hT fX7_15 rfl dX7_add_31 hH.k1 ?_
  refine J_topil (((zu_ne _ _ _ _ (by decide) _).trans hX.1)) ?_
  refine J_iconst (v := 1) hT dX7_add_34 rfl ?_
  refine J_iadd hT dX7_add_35 ?_
  refine J_topil ((nI_1 _)) ?_
  refine R_putI hT fX7_15 rfl rfl dX7_add_36 hH.k1 ?_
  exact J_vret hT dX7_add_39 rfl (⟨rfl, rfl⟩) (Nat.le_refl _) (Nat.le_refl _)

set_option maxRecDepth 100000 in
set_option maxHeartbeats 4000000 in
theorem c_X8_wipe {l : Launch} {Z : zZ} (hZ : zSt l Z) {μ : zMem} {σ : zS2} {π : zP2} {g : zG2} {n : Nat} {S : zS2} (hC : CW n S μ σ π) {L : Nat} (hL : TX L S) : zCt l Z mX8_wipe 0 0 0 [.ref 0] (zA4 μ σ π g) (fun r μ' => r = some (.int (nI L)) ∧ ∃ σ', μ' = zA4 μ σ' π g ∧ CW n (zu S 67 1 0) μ σ' π ∧ zPf2 σ σ') := by
  refine zCt_of hZ mpX8_wipe (Nat.le_of_ble_eq_true rfl) (L := [some (.ref 0), none]) rfl (fun τ hY => ?_)
  have hT := hY.1
  have hH := hC.ph
  refine J_aload_n (i := 0) hT dX8_wipe_0 rfl rfl ?_
  refine R_getP hT fX8_12 rfl dX8_wipe_1 hC.k0 hC.p0 ?_
  refine R_getI hT fX8_84 rfl dX8_wipe_4 hH.k1 ?_
  refine J_topil ((hC.tl.trans hL.1)) ?_
  refine S_istore1 hT dX8_wipe_7 rfl rfl ?_
  refine J_aload_n (i := 0) hT dX8_wipe_8 rfl rfl ?_
  refine R_getP hT fX8_12 rfl dX8_wipe_9 hC.k0 hC.p0 ?_
  refine J_iconst (v := 0) hT dX8_wipe_12 rfl ?_
  refine R_putI hT fX8_84 rfl rfl dX8_wipe_13 hH.k1 ?_
  refine J_iload_n (i := 1) hT dX8_wipe_16 rfl rfl ?_
  exact J_iret hT dX8_wipe_17 rfl rfl (⟨rfl, _, rfl, hC.text (fun b j h1 _ => zu_ne _ _ _ _ h1 j) (fun b j _ h => zu_off h) ((zu_eq _ _ _ _).trans (zu_eq _ _ _ _).symm) (fun i hi => (zu_ne _ _ _ _ (by decide) i).trans ((hC.tx hi).trans (zu_ne _ _ _ _ (by decide) i).symm)), fun b j h1 _ => zu_ne _ _ _ _ h1 j⟩) (Nat.le_refl _) (Nat.le_refl _)

set_option maxRecDepth 100000 in
set_option maxHeartbeats 4000000 in
theorem c_X8_fault {l : Launch} {Z : zZ} (hZ : zSt l Z) {μ : zMem} {σ : zS2} {π : zP2} {g : zG2} {n : Nat} {S : zS2} (hC : CW n S μ σ π) {L : Nat} (hL : TX L S) : zCt l Z mX8_fault 163 0 0 [.ref 0] (zA4 μ σ π g) (fun r μ' => r = some (.int (cFl (dR0 S L) L)) ∧ ∃ σ', μ' = zA4 μ σ' π g ∧ zPf σ σ' ∧ CW n S μ σ' π ∧ ∀ p ks, dR0 S L = .inr (p, ks) → zPp L p ks 0 σ') := by
  refine zCt_of hZ mpX8_fault (Nat.le_of_ble_eq_true rfl) (L := [some (.ref 0)]) rfl (fun τ hY => ?_)
  have hT := hY.1
  have hH := hC.ph
  refine J_aload_n (i := 0) hT dX8_fault_0 rfl rfl ?_
  refine R_getP hT fX8_21 rfl dX8_fault_1 hC.k0 hC.p1 ?_
  refine J_callV (ci := 2) hY dX8_fault_4 mfX2_findFault miX2_findFault msX2_findFault kX8_87 ⟨by decide, rfl⟩ hH.k3 (c_X2_findFault hZ hH (hC.txx hL)) rfl (by decide) rfl rfl (Nat.le_of_ble_eq_true rfl) (Nat.le_refl _) (Nat.le_refl _) (fun r1 μ1 hq1 => ?_)
  obtain ⟨rfl, σ1, rfl, hf1, hP1⟩ := hq1
  show zJ _ _ _ _ (.int _ :: _) _ _ _
  exact J_iret hT dX8_fault_7 rfl rfl (⟨rfl, _, rfl, hf1, hC.pf hf1, hP1⟩) (Nat.le_refl _) (Nat.le_refl _)


