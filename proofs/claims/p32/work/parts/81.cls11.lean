set_option maxRecDepth 100000 in
set_option maxHeartbeats 4000000 in
theorem c_X6_forgetChanges {l : Launch} {Z : zZ} (hZ : zSt l Z) {μ : zMem} {σ : zS2} {π : zP2} {g : zG2} {t : Nat} (ht : ta t) {S : zS2} (hM : mo t μ σ π S) : zCt l Z mX6_forgetChanges 0 0 0 [.ref t] (zA4 μ σ π g) (fun r μ' => r = none ∧ ∃ σ', μ' = zA4 μ σ' π g ∧ mo t μ σ' π S ∧ zfT t σ σ' ∧ ∀ j, j < 5 → σ' (t + 25 + j) 13 = 0) := by
  refine zCt_of hZ mpX6_forgetChanges (Nat.le_of_ble_eq_true rfl) (L := [some (.ref t), none, none, none, none]) rfl (fun τ hY => ?_)
  have hT := hY.1
  have hB := hM.1.tb
  have loop : ∀ n i, i + n = 5 → ∀ σ1, mo t μ σ1 π S → zfT t σ σ1 → (∀ j, j < i → σ1 (t + 25 + j) 13 = 0) → zJ τ (zFn τ (fun r μ' => r = none ∧ ∃ σ', μ' = zA4 μ σ' π g ∧ mo t μ σ' π S ∧ zfT t σ σ' ∧ ∀ j, j < 5 → σ' (t + 25 + j) 13 = 0) 0 0) 10 [some (.ref t), some (.ref (t + 6)), some (.int (nI 5)), some (.int (nI i)), none] [] (zA4 μ σ1 π g) 0 0 := by
    intro n
    induction n with
    | zero =>
      intro i hi
      have : i = 5 := by omega
      subst this
      intro σ1 hM1 hf1 hj1
      refine J_iload_n (i := 3) hT dX6_forgetChanges_10 rfl rfl ?_
      refine J_iload_n (i := 2) hT dX6_forgetChanges_11 rfl rfl ?_
      refine J_icmp_ge (tgt := 32) hT dX6_forgetChanges_12 (by decide) (fun _ => ?_) (fun q => absurd (nI_le (a := 5) (b := 5) (by decide) (by decide)) q)
      exact J_vret hT dX6_forgetChanges_32 rfl (⟨rfl, σ1, rfl, hM1, hf1, hj1⟩) (Nat.le_refl _) (Nat.le_refl _)
    | succ n ih =>
      intro i hi
      intro σ1 hM1 hf1 hj1
      have hi5 : i < 5 := by omega
      refine J_iload_n (i := 3) hT dX6_forgetChanges_10 rfl rfl ?_
      refine J_iload_n (i := 2) hT dX6_forgetChanges_11 rfl rfl ?_
      refine J_icmp_ge (tgt := 32) hT dX6_forgetChanges_12 (by decide) (fun q => absurd q (Int32.not_le.mpr (nI_lt (a := i) (b := 5) (by omega) (by decide)))) (fun _ => ?_)
      refine J_aload_n (i := 1) hT dX6_forgetChanges_15 rfl rfl ?_
      refine J_iload_n (i := 3) hT dX6_forgetChanges_16 rfl rfl ?_
      refine R_aald1 hT dX6_forgetChanges_17 hB.k6 (by decide) hB.l6 (by first | exact ⟨rfl, by decide⟩ | exact zix_nI (by omega) (by decide) | assumption) (hB.ps hi5) ?_
      refine S_astore4 hT dX6_forgetChanges_18 rfl ?_
      refine J_aload (i := 4) hT dX6_forgetChanges_20 rfl ?_
      refine J_iconst (v := 0) hT dX6_forgetChanges_22 rfl ?_
      refine R_putI hT fX6_174 rfl rfl dX6_forgetChanges_23 (hB.ks hi5) ?_
      refine S_iinc3 hT dX6_forgetChanges_26 (nI_inc _) rfl ?_
      refine J_goto (tgt := 10) hT dX6_forgetChanges_29 (by decide) ?_
      refine J_L (L' := [_, _, _, _, none]) (zsub_keep (zsub_keep (zsub_keep (zsub_keep (zsub_drop zsub_nil))))) ?_
      exact ih (i + 1) (by omega) _ (hM1.uj ht (Or.inr ⟨by omega, by omega, Or.inl rfl⟩)) (hf1.tr (zfT_u (zmu_s hi5))) (fun j hj => by
        by_cases e : j = i
        · subst e; exact zu_eq _ _ _ _
        · rw [zu_n _ _ _ _ (by omega)]; exact hj1 j (by omega))
  refine J_aload_n (i := 0) hT dX6_forgetChanges_0 rfl rfl ?_
  refine R_getP hT fX6_37 rfl dX6_forgetChanges_1 hB.k hB.p4 ?_
  refine S_astore1 hT dX6_forgetChanges_4 rfl rfl ?_
  refine J_aload_n (i := 1) hT dX6_forgetChanges_5 rfl rfl ?_
  refine R_alen hT dX6_forgetChanges_6 (by rw [hB.k6]; decide) hB.l6 ?_
  refine S_istore2 hT dX6_forgetChanges_7 rfl rfl ?_
  refine J_iconst (v := 0) hT dX6_forgetChanges_8 rfl ?_
  refine S_istore3 hT dX6_forgetChanges_9 rfl rfl ?_
  exact loop 5 0 rfl σ hM zfT.rf (fun j hj => absurd hj (by omega))

set_option maxRecDepth 100000 in
set_option maxHeartbeats 4000000 in
theorem c_X6_cutLowestOfLateChanges {l : Launch} {Z : zZ} (hZ : zSt l Z) {μ : zMem} {σ : zS2} {π : zP2} {g : zG2} {t : Nat} (ht : ta t) {S : zS2} (hM : mo t μ σ π S) {late : Int32} (hl : ∀ j, j < 5 → (28 < σ (t + 25 + j) 13 ↔ bt late j = true)) (hex : ∃ k, k < 5 ∧ bt late k = true) : zCt l Z mX6_cutLowestOfLateChanges 3 0 0 [.ref t] (zA4 μ σ π g) (fun r μ' => r = none ∧ zE1 t μ σ π g (cutF S (lowN late)) μ') := by
  refine zCt_of hZ mpX6_cutLowestOfLateChanges (Nat.le_of_ble_eq_true rfl) (L := [some (.ref t), none, none, none, none]) rfl (fun τ hY => ?_)
  have hT := hY.1
  have hB := hM.1.tb
  have loop : ∀ n i, i + n = 5 → (∀ q, q < i → bt late q = false) → zJ τ (zFn τ (fun r μ' => r = none ∧ zE1 t μ σ π g (cutF S (lowN late)) μ') 0 0) 10 [some (.ref t), some (.ref (t + 6)), some (.int (nI 5)), some (.int (nI i)), none] [] (zA4 μ σ π g) 0 0 := by
    intro n
    induction n with
    | zero =>
      intro i hi
      have : i = 5 := by omega
      subst this
      intro hq
      obtain ⟨k, hk, hb⟩ := hex
      rw [hq k hk] at hb
      cases hb
    | succ n ih =>
      intro i hi
      intro hq
      have hi5 : i < 5 := by omega
      by_cases hb : bt late i = true
      · have hlow : lowN late = i := by
          obtain ⟨h1, h2, h3⟩ := lowN_ok hex
          rcases Nat.lt_trichotomy (lowN late) i with h | h | h
          · rw [hq _ h] at h2; cases h2
          · exact h
          · rw [h3 i h] at hb; cases hb
        rw [hlow]
        have hM1 : mo t μ (zu σ (t + 25 + i) 1 3) π (zu S 92 i 3) := ⟨hM.1.ul ht (o := 25) (f := 1) (n := 5) (b := 92) (by decide) hi5 (fun _ q => absurd q (by decide)), hM.2.mv (fun _ => rfl) (fun c _ => zu_ne _ _ _ _ (by decide) c)⟩
        have hM2 := hM1.ul ht (o := 25) (f := 8) (n := 5) (b := 95) (v := 0) (by decide) hi5 (by decide) (by decide)
        refine J_iload_n (i := 3) hT dX6_cutLowestOfLateChanges_10 rfl rfl ?_
        refine J_iload_n (i := 2) hT dX6_cutLowestOfLateChanges_11 rfl rfl ?_
        refine J_icmp_ge (tgt := 56) hT dX6_cutLowestOfLateChanges_12 (by decide) (fun q => absurd q (Int32.not_le.mpr (nI_lt (a := i) (b := 5) (by omega) (by decide)))) (fun _ => ?_)
        refine J_aload_n (i := 1) hT dX6_cutLowestOfLateChanges_15 rfl rfl ?_
        refine J_iload_n (i := 3) hT dX6_cutLowestOfLateChanges_16 rfl rfl ?_
        refine R_aald1 hT dX6_cutLowestOfLateChanges_17 hB.k6 (by decide) hB.l6 (by first | exact ⟨rfl, by decide⟩ | exact zix_nI (by omega) (by decide) | assumption) (hB.ps hi5) ?_
        refine S_astore4 hT dX6_cutLowestOfLateChanges_18 rfl ?_
        refine J_aload (i := 4) hT dX6_cutLowestOfLateChanges_20 rfl ?_
        refine R_getI hT fX6_174 rfl dX6_cutLowestOfLateChanges_22 (hB.ks hi5) ?_
        refine J_bipush (v := 28) hT dX6_cutLowestOfLateChanges_25 rfl ?_
        refine J_icmp_le (tgt := 50) hT dX6_cutLowestOfLateChanges_27 (by decide) (fun q => absurd q (Int32.not_le.mpr ((hl i hi5).mpr hb))) (fun _ => ?_)
        refine J_aload (i := 4) hT dX6_cutLowestOfLateChanges_30 rfl ?_
        refine J_iconst (v := 3) hT dX6_cutLowestOfLateChanges_32 rfl ?_
        refine R_putI hT fX6_159 rfl rfl dX6_cutLowestOfLateChanges_33 (hB.ks hi5) ?_
        refine J_aload (i := 4) hT dX6_cutLowestOfLateChanges_36 rfl ?_
        refine J_iconst (v := 0) hT dX6_cutLowestOfLateChanges_38 rfl ?_
        refine R_putI hT fX6_177 rfl rfl dX6_cutLowestOfLateChanges_39 (hB.ks hi5) ?_
        refine J_aload_n (i := 0) hT dX6_cutLowestOfLateChanges_42 rfl rfl ?_
        refine J_aload (i := 4) hT dX6_cutLowestOfLateChanges_43 rfl ?_
        refine J_iconst (v := 0) hT dX6_cutLowestOfLateChanges_45 rfl ?_
        refine J_callV (ci := 6) hY dX6_cutLowestOfLateChanges_46 mfX6_setTold miX6_setTold msX6_setTold kX6_180 ⟨by decide, rfl⟩ hB.k (c_X6_setTold hZ ht hM2 hi5) rfl (by decide) rfl rfl (Nat.le_of_ble_eq_true rfl) (Nat.le_refl _) (Nat.le_refl _) (fun r1 μ1 hq1 => ?_)
        obtain ⟨rfl, hq2⟩ := hq1
        exact J_vret hT dX6_cutLowestOfLateChanges_49 rfl (⟨rfl, hq2.e1.mv ((zfT_u (zmu_s hi5)).tr (zfT_u (zmu_s hi5)))⟩) (Nat.le_refl _) (Nat.le_refl _)
      · refine J_iload_n (i := 3) hT dX6_cutLowestOfLateChanges_10 rfl rfl ?_
        refine J_iload_n (i := 2) hT dX6_cutLowestOfLateChanges_11 rfl rfl ?_
        refine J_icmp_ge (tgt := 56) hT dX6_cutLowestOfLateChanges_12 (by decide) (fun q => absurd q (Int32.not_le.mpr (nI_lt (a := i) (b := 5) (by omega) (by decide)))) (fun _ => ?_)
        refine J_aload_n (i := 1) hT dX6_cutLowestOfLateChanges_15 rfl rfl ?_
        refine J_iload_n (i := 3) hT dX6_cutLowestOfLateChanges_16 rfl rfl ?_
        refine R_aald1 hT dX6_cutLowestOfLateChanges_17 hB.k6 (by decide) hB.l6 (by first | exact ⟨rfl, by decide⟩ | exact zix_nI (by omega) (by decide) | assumption) (hB.ps hi5) ?_
        refine S_astore4 hT dX6_cutLowestOfLateChanges_18 rfl ?_
        refine J_aload (i := 4) hT dX6_cutLowestOfLateChanges_20 rfl ?_
        refine R_getI hT fX6_174 rfl dX6_cutLowestOfLateChanges_22 (hB.ks hi5) ?_
        refine J_bipush (v := 28) hT dX6_cutLowestOfLateChanges_25 rfl ?_
        refine J_icmp_le (tgt := 50) hT dX6_cutLowestOfLateChanges_27 (by decide) (fun _ => ?_) (fun q => absurd (Int32.not_lt.mp (fun q => hb ((hl i hi5).mp q))) q)
        refine S_iinc3 hT dX6_cutLowestOfLateChanges_50 (nI_inc _) rfl ?_
        refine J_goto (tgt := 10) hT dX6_cutLowestOfLateChanges_53 (by decide) ?_
        refine J_L (L' := [_, _, _, _, none]) (zsub_keep (zsub_keep (zsub_keep (zsub_keep (zsub_drop zsub_nil))))) ?_
        exact ih (i + 1) (by omega) (fun q hq2 => by
          by_cases e : q = i
          · subst e; simpa using hb
          · exact hq q (by omega))
  refine J_aload_n (i := 0) hT dX6_cutLowestOfLateChanges_0 rfl rfl ?_
  refine R_getP hT fX6_37 rfl dX6_cutLowestOfLateChanges_1 hB.k hB.p4 ?_
  refine S_astore1 hT dX6_cutLowestOfLateChanges_4 rfl rfl ?_
  refine J_aload_n (i := 1) hT dX6_cutLowestOfLateChanges_5 rfl rfl ?_
  refine R_alen hT dX6_cutLowestOfLateChanges_6 (by rw [hB.k6]; decide) hB.l6 ?_
  refine S_istore2 hT dX6_cutLowestOfLateChanges_7 rfl rfl ?_
  refine J_iconst (v := 0) hT dX6_cutLowestOfLateChanges_8 rfl ?_
  refine S_istore3 hT dX6_cutLowestOfLateChanges_9 rfl rfl ?_
  exact loop 5 0 rfl (fun q hq => absurd hq (by omega))

def dueB (S : zS2) : Nat → Bool
  | 0 => false
  | n + 1 => dueB S n || (decide (S 92 n = 1) && decide (S 94 n ≤ S 67 34 - S 93 n))
theorem dueB_t {S : zS2} {n m : Nat} (h : n ≤ m) (hd : dueB S n = true) : dueB S m = true := by
  induction m with
  | zero => rw [show n = 0 by omega] at hd; exact hd
  | succ m ih =>
    rcases Nat.lt_or_eq_of_le h with q | q
    · rw [dueB, ih (by omega)]; rfl
    · rw [← q]; exact hd

set_option maxRecDepth 100000 in
set_option maxHeartbeats 4000000 in
theorem c_X6_isStartDue {l : Launch} {Z : zZ} (hZ : zSt l Z) {μ : zMem} {σ : zS2} {π : zP2} {g : zG2} {t : Nat} (ht : ta t) {S : zS2} (hM : mo t μ σ π S) : zCt l Z mX6_isStartDue 1 0 0 [.ref t] (zA4 μ σ π g) (fun r μ' => r = some (.int (zbi (dueB S 5))) ∧ μ' = zA4 μ σ π g) := by
  refine zCt_of hZ mpX6_isStartDue (Nat.le_of_ble_eq_true rfl) (L := [some (.ref t), none, none, none, none]) rfl (fun τ hY => ?_)
  have hT := hY.1
  have hB := hM.1.tb
  have loop : ∀ n i, i + n = 5 → dueB S i = false → zJ τ (zFn τ (fun r μ' => r = some (.int (zbi (dueB S 5))) ∧ μ' = zA4 μ σ π g) 0 0) 10 [some (.ref t), some (.ref (t + 6)), some (.int (nI 5)), some (.int (nI i)), none] [] (zA4 μ σ π g) 0 0 := by
    intro n
    induction n with
    | zero =>
      intro i hi
      have : i = 5 := by omega
      subst this
      intro hq
      refine J_iload_n (i := 3) hT dX6_isStartDue_10 rfl rfl ?_
      refine J_iload_n (i := 2) hT dX6_isStartDue_11 rfl rfl ?_
      refine J_icmp_ge (tgt := 40) hT dX6_isStartDue_12 (by decide) (fun _ => ?_) (fun q => absurd (nI_le (a := 5) (b := 5) (by decide) (by decide)) q)
      refine J_iconst (v := 0) hT dX6_isStartDue_40 rfl ?_
      exact J_iret hT dX6_isStartDue_41 rfl rfl (⟨by rw [hq]; rfl, rfl⟩) (Nat.le_refl _) (Nat.le_refl _)
    | succ n ih =>
      intro i hi
      intro hq
      have hi5 : i < 5 := by omega
      have hdue : (decide (σ (t + 25 + i) 1 = 1) && decide (σ (t + 25 + i) 12 ≤ S 67 34 - σ (t + 25 + i) 11)) = (decide (S 92 i = 1) && decide (S 94 i ≤ S 67 34 - S 93 i)) := by
        rw [hM.1.sst hi5]
        by_cases e : S 92 i = 1
        · rw [(hM.1.st i hi5 e).1, (hM.1.st i hi5 e).2]
        · simp [e]
      refine J_iload_n (i := 3) hT dX6_isStartDue_10 rfl rfl ?_
      refine J_iload_n (i := 2) hT dX6_isStartDue_11 rfl rfl ?_
      refine J_icmp_ge (tgt := 40) hT dX6_isStartDue_12 (by decide) (fun q => absurd q (Int32.not_le.mpr (nI_lt (a := i) (b := 5) (by omega) (by decide)))) (fun _ => ?_)
      refine J_aload_n (i := 1) hT dX6_isStartDue_15 rfl rfl ?_
      refine J_iload_n (i := 3) hT dX6_isStartDue_16 rfl rfl ?_
      refine R_aald1 hT dX6_isStartDue_17 hB.k6 (by decide) hB.l6 (by first | exact ⟨rfl, by decide⟩ | exact zix_nI (by omega) (by decide) | assumption) (hB.ps hi5) ?_
      refine S_astore4 hT dX6_isStartDue_18 rfl ?_
      refine J_aload (i := 4) hT dX6_isStartDue_20 rfl ?_
      refine J_aload_n (i := 0) hT dX6_isStartDue_22 rfl rfl ?_
      refine R_getI hT fX6_49 rfl dX6_isStartDue_23 hB.k ?_
      refine J_topil (hM.1.w) ?_
      refine R_callV1 (ci := 4) hY dX6_isStartDue_26 mfX4_isDue miX4_isDue msX4_isDue kX6_120 ⟨by decide, rfl⟩ (hB.ks hi5) (c_X4_isDue hZ (hB.ks hi5)) rfl (by decide) rfl rfl (Nat.le_of_ble_eq_true rfl) (Nat.le_refl _) (Nat.le_refl _) ?_
      refine J_if_eq (tgt := 34) hT dX6_isStartDue_29 (by decide) (fun q29 => ?_) (fun q29 => ?_)
      · refine S_iinc3 hT dX6_isStartDue_34 (nI_inc _) rfl ?_
        refine J_goto (tgt := 10) hT dX6_isStartDue_37 (by decide) ?_
        refine J_L (L' := [_, _, _, _, none]) (zsub_keep (zsub_keep (zsub_keep (zsub_keep (zsub_drop zsub_nil))))) ?_
        exact ih (i + 1) (by omega) (by rw [dueB, hq, ← hdue, zbi_0.mp q29]; rfl)
      · refine J_iconst (v := 1) hT dX6_isStartDue_32 rfl ?_
        exact J_iret hT dX6_isStartDue_33 rfl rfl (⟨by rw [dueB_t (n := i + 1) (by omega) (by rw [dueB, hq, ← hdue, zbi_ne.mp q29]; rfl)]; rfl, rfl⟩) (Nat.le_refl _) (Nat.le_refl _)
  refine J_aload_n (i := 0) hT dX6_isStartDue_0 rfl rfl ?_
  refine R_getP hT fX6_37 rfl dX6_isStartDue_1 hB.k hB.p4 ?_
  refine S_astore1 hT dX6_isStartDue_4 rfl rfl ?_
  refine J_aload_n (i := 1) hT dX6_isStartDue_5 rfl rfl ?_
  refine R_alen hT dX6_isStartDue_6 (by rw [hB.k6]; decide) hB.l6 ?_
  refine S_istore2 hT dX6_isStartDue_7 rfl rfl ?_
  refine J_iconst (v := 0) hT dX6_isStartDue_8 rfl ?_
  refine S_istore3 hT dX6_isStartDue_9 rfl rfl ?_
  exact loop 5 0 rfl rfl

def resF (f r : Nat) (S : zS2) (late : Int32) : zS2 × Nat := if (blkF r S late).2.2.1 = false then ((blkF r S late).1, (blkF r S late).2.1) else ((setF f (cutF (blkF r S late).1 (lowN (blkF r S late).2.2.2))).1, (blkF r S late).2.1 + (setF f (cutF (blkF r S late).1 (lowN (blkF r S late).2.2.2))).2)
theorem resF_set (f : Nat) (S : zS2) : setF (f + 1) S = resF f 40 S 0 := by rw [setF]; rfl
set_option maxHeartbeats 200000 in
theorem resF_0 (f r : Nat) {S : zS2} (late : Int32) (h : maskF S = 0) : resF f (r + 1) S late = (roundF S, 1) := by
  unfold resF
  rw [blkF_0 late h]
  dsimp only
  rw [if_pos rfl]
set_option maxHeartbeats 200000 in
theorem resF_1 (f r : Nat) {S : zS2} (late : Int32) (h : maskF S ≠ 0) : resF f (r + 1) S late = ((resF f r (roundF S) (late ||| (if r < 12 then maskF S else 0))).1, (resF f r (roundF S) (late ||| (if r < 12 then maskF S else 0))).2 + 1) := by
  unfold resF
  rw [blkF_1 late h]
  dsimp only
  by_cases e : (blkF r (roundF S) (late ||| (if r < 12 then maskF S else 0))).2.2.1 = false
  · rw [if_pos e, if_pos e]
  · rw [if_neg e, if_neg e]
    dsimp only
    congr 1
    omega
set_option maxHeartbeats 200000 in
theorem resF_c (f : Nat) (S : zS2) (late : Int32) : resF f 0 S late = ((setF f (cutF S (lowN late))).1, 0 + (setF f (cutF S (lowN late))).2) := by
  have e : blkF 0 S late = (S, 0, true, late) := rfl
  unfold resF
  rw [e]
  dsimp only
  rw [if_neg (by decide)]

set_option maxRecDepth 100000 in
set_option maxHeartbeats 600000 in
theorem c_X6_settle {l : Launch} {Z : zZ} (hZ : zSt l Z) (hO : zOps Z) {μ : zMem} {σ : zS2} {π : zP2} {g : zG2} {t : Nat} (ht : ta t) {S : zS2} (hM : mo t μ σ π S) (hR : RI S) (hX : XI S) : zCt l Z mX6_settle 4 0 0 [.ref t] (zA4 μ σ π g) (fun r μ' => r = some (.int (nI (setF 6 S).2)) ∧ zE1 t μ σ π g (setF 6 S).1 μ') := by
  refine zCt_of hZ mpX6_settle (Nat.le_of_ble_eq_true rfl) (L := [some (.ref t), none, none, none]) rfl (fun τ hY => ?_)
  have hT := hY.1
  have hB := hM.1.tb
  obtain ⟨N, hN⟩ : ∃ N, N = (setF 6 S).2 := ⟨_, rfl⟩
  obtain ⟨SF, hSF⟩ : ∃ x, x = (setF 6 S).1 := ⟨_, rfl⟩
  rw [← hN, ← hSF]
  have loop : ∀ f, f ≤ 5 → ∀ r, r + 1 ≤ 40 → ∀ B S1 L σ1, mo t μ σ1 π S1 → RI S1 → XI S1 → (12 ≤ r → L = 0) → (∀ j, j < 5 → (28 < σ1 (t + 25 + j) 13 ↔ bt L j = true)) → (∀ k, k < 32 → bt L k = true → k < 5 ∧ S1 92 k ≠ 3) → ncut S1 ≤ f → B + 40 * (f + 1) ≤ 240 → zfT t σ σ1 → SF = (resF f (r + 1) S1 L).1 → N = B + (40 - (r + 1)) + (resF f (r + 1) S1 L).2 → zJ τ (zFn τ (fun r μ' => r = some (.int (nI N)) ∧ zE1 t μ σ π g SF μ') 0 0) 12 [some (.ref t), some (.int 240), some (.int (nI (40 - (r + 1)))), some (.int (nI (B + (40 - (r + 1)) + 1)))] [] (zA4 μ σ1 π g) 0 0 := by
    intro f
    induction f with
    | zero =>
      intro _ r
      induction r with
      | zero =>
        intro hr B S1 L σ1 hM1 hR1 hX1 hL0 hCI hLb hn hB2 hf1 he1 he2
        refine J_iload_n (i := 3) hT dX6_settle_12 rfl rfl ?_
        refine J_iload_n (i := 1) hT dX6_settle_13 rfl rfl ?_
        refine J_icmp_gt (tgt := 56) hT dX6_settle_14 (by decide) (fun q => absurd q (Int32.not_lt.mpr (nI_le (a := B + (40 - (0 + 1)) + 1) (b := 240) (by omega) (by decide)))) (fun _ => ?_)
        refine S_iinc2 hT dX6_settle_17 (show nI (40 - (0 + 1)) + Int32.ofInt 1 = nI (40 - 0) from (nI_inc _).trans (congrArg nI (by omega))) rfl ?_
        refine J_aload_n (i := 0) hT dX6_settle_20 rfl rfl ?_
        refine J_callV (ci := 6) hY dX6_settle_21 mfX6_workOutDirtyCells miX6_workOutDirtyCells msX6_workOutDirtyCells kX6_165 ⟨by decide, rfl⟩ hB.k (c_X6_workOutDirtyCells hZ hO ht hM1 hR1 hX1) rfl (by decide) rfl rfl (Nat.le_of_ble_eq_true rfl) (Nat.le_refl _) (Nat.le_refl _) (fun r1 μ1 hq1 => ?_)
        obtain ⟨rfl, σ2, π2, rfl, hM2, hf2, rfl, hc2⟩ := hq1
        refine J_aload_n (i := 0) hT dX6_settle_24 rfl rfl ?_
        refine J_iload_n (i := 2) hT dX6_settle_25 rfl rfl ?_
        refine J_callV (ci := 6) hY dX6_settle_26 mfX6_lookAtServices miX6_lookAtServices msX6_lookAtServices kX6_168 ⟨by decide, rfl⟩ hB.k (c_X6_lookAtServices hZ ht hM2 hR1.works (hX1.works hR1)) rfl (by decide) rfl rfl (Nat.le_of_ble_eq_true rfl) (Nat.le_refl _) (Nat.le_refl _) (fun r2 μ2 hq2 => ?_)
        obtain ⟨rfl, σ3, π3, rfl, hM3, hf3, rfl, hc3⟩ := hq2
        have hM3' : mo t μ σ3 π3 (roundF S1) := hM3
        have hRM : rdM (worksF S1) 5 = maskF S1 := rfl
        have hf3' : zfT t σ σ3 := hf1.tr (hf2.tr hf3)
        rw [hRM] at hc3
        refine J_if_ne (tgt := 34) hT dX6_settle_29 (by decide) (fun q29 => ?_) (fun q29 => ?_)
        · have hmz : maskF S1 ≠ 0 := of_decide_eq_true (zbi_ne.mp q29)
          rw [resF_1 0 0 L hmz] at he1 he2
          dsimp only at he1 he2
          have hLn : (12 ≤ 0 → L ||| (if 0 < 12 then maskF S1 else 0) = 0) := fun q => by rw [hL0 (by omega), if_neg (by omega)]; rfl
          have hCn : ∀ j, j < 5 → (28 < σ3 (t + 25 + j) 13 ↔ bt (L ||| (if 0 < 12 then maskF S1 else 0)) j = true) := fun j hj => by
            rw [hc3 j hj, hc2 j hj, b_or]
            by_cases hb : bt (maskF S1) j = true
            · rw [if_pos hb]
              by_cases h12 : 0 < 12
              · rw [if_pos h12, hb, Bool.or_true]
                exact ⟨fun _ => rfl, fun _ => nI_lt (a := 28) (b := 40 - 0) (by omega) (by omega)⟩
              · rw [if_neg h12, hL0 (by omega), b_0]
                exact ⟨fun q => absurd q (Int32.not_lt.mpr (nI_le (a := 40 - 0) (b := 28) (by omega) (by decide))), fun q => absurd q (by decide)⟩
            · rw [if_neg hb]
              have hb2 : bt (if 0 < 12 then maskF S1 else 0) j = false := by
                split
                · simpa using hb
                · exact b_0 j
              rw [hb2, Bool.or_false]
              exact hCI j hj
          have hLb2 : ∀ k, k < 32 → bt (L ||| (if 0 < 12 then maskF S1 else 0)) k = true → k < 5 ∧ roundF S1 92 k ≠ 3 := fun k hk hb => by
            rw [b_or, Bool.or_eq_true] at hb
            rcases hb with hb | hb
            · exact ⟨(hLb k hk hb).1, fun q => (hLb k hk hb).2 ((roundF_st S1 k).mp q)⟩
            · split at hb
              · have := maskF_bt hR1 hk hb
                exact ⟨this.1, fun q => this.2 ((roundF_st S1 k).mp q)⟩
              · rw [b_0] at hb; cases hb
          have hn2 : ncut (roundF S1) = ncut S1 := ncut_eq (fun k => roundF_st S1 k)
          rw [if_pos (by decide : 0 < 12)] at hCn hLb2 he1 he2
          rw [resF_c] at he1 he2
          dsimp only at he1 he2
          have hexb : ∃ k, k < 5 ∧ bt (L ||| maskF S1) k = true := by
            obtain ⟨k, hk, hb⟩ := bt_ex hmz
            exact ⟨k, (maskF_bt hR1 hk hb).1, by rw [b_or, hb, Bool.or_true]⟩
          obtain ⟨hw5, hwb, -⟩ := lowN_ok hexb
          have hw3 := (hLb2 _ (by omega) hwb).2
          have hncut : ncut (cutF (roundF S1) (lowN (L ||| maskF S1))) < ncut (roundF S1) := ncut_cut hw5 hw3
          exact absurd hncut (by omega)
        · have h0 := resF_0 0 0 L (Decidable.not_not.mp (of_decide_eq_false (zbi_0.mp q29)))
          have hx1 : SF = roundF S1 := by rw [he1, h0]
          have hx2 : N = B + (40 - (0 + 1)) + 1 := by rw [he2, h0]
          clear he1 he2 h0
          refine J_iload_n (i := 3) hT dX6_settle_32 rfl rfl ?_
          exact J_iret hT dX6_settle_33 rfl rfl (⟨by rw [hx2], hx1 ▸ ⟨σ3, rfl, hM3', hf3'⟩⟩) (Nat.le_refl _) (Nat.le_refl _)
      | succ r ihr =>
        intro hr B S1 L σ1 hM1 hR1 hX1 hL0 hCI hLb hn hB2 hf1 he1 he2
        refine J_iload_n (i := 3) hT dX6_settle_12 rfl rfl ?_
        refine J_iload_n (i := 1) hT dX6_settle_13 rfl rfl ?_
        refine J_icmp_gt (tgt := 56) hT dX6_settle_14 (by decide) (fun q => absurd q (Int32.not_lt.mpr (nI_le (a := B + (40 - ((r + 1) + 1)) + 1) (b := 240) (by omega) (by decide)))) (fun _ => ?_)
        refine S_iinc2 hT dX6_settle_17 (show nI (40 - ((r + 1) + 1)) + Int32.ofInt 1 = nI (40 - (r + 1)) from (nI_inc _).trans (congrArg nI (by omega))) rfl ?_
        refine J_aload_n (i := 0) hT dX6_settle_20 rfl rfl ?_
        refine J_callV (ci := 6) hY dX6_settle_21 mfX6_workOutDirtyCells miX6_workOutDirtyCells msX6_workOutDirtyCells kX6_165 ⟨by decide, rfl⟩ hB.k (c_X6_workOutDirtyCells hZ hO ht hM1 hR1 hX1) rfl (by decide) rfl rfl (Nat.le_of_ble_eq_true rfl) (Nat.le_refl _) (Nat.le_refl _) (fun r1 μ1 hq1 => ?_)
        obtain ⟨rfl, σ2, π2, rfl, hM2, hf2, rfl, hc2⟩ := hq1
        refine J_aload_n (i := 0) hT dX6_settle_24 rfl rfl ?_
        refine J_iload_n (i := 2) hT dX6_settle_25 rfl rfl ?_
        refine J_callV (ci := 6) hY dX6_settle_26 mfX6_lookAtServices miX6_lookAtServices msX6_lookAtServices kX6_168 ⟨by decide, rfl⟩ hB.k (c_X6_lookAtServices hZ ht hM2 hR1.works (hX1.works hR1)) rfl (by decide) rfl rfl (Nat.le_of_ble_eq_true rfl) (Nat.le_refl _) (Nat.le_refl _) (fun r2 μ2 hq2 => ?_)
        obtain ⟨rfl, σ3, π3, rfl, hM3, hf3, rfl, hc3⟩ := hq2
        have hM3' : mo t μ σ3 π3 (roundF S1) := hM3
        have hRM : rdM (worksF S1) 5 = maskF S1 := rfl
        have hf3' : zfT t σ σ3 := hf1.tr (hf2.tr hf3)
        rw [hRM] at hc3
        refine J_if_ne (tgt := 34) hT dX6_settle_29 (by decide) (fun q29 => ?_) (fun q29 => ?_)
        · have hmz : maskF S1 ≠ 0 := of_decide_eq_true (zbi_ne.mp q29)
          rw [resF_1 0 (r + 1) L hmz] at he1 he2
          dsimp only at he1 he2
          have hLn : (12 ≤ (r + 1) → L ||| (if (r + 1) < 12 then maskF S1 else 0) = 0) := fun q => by rw [hL0 (by omega), if_neg (by omega)]; rfl
          have hCn : ∀ j, j < 5 → (28 < σ3 (t + 25 + j) 13 ↔ bt (L ||| (if (r + 1) < 12 then maskF S1 else 0)) j = true) := fun j hj => by
            rw [hc3 j hj, hc2 j hj, b_or]
            by_cases hb : bt (maskF S1) j = true
            · rw [if_pos hb]
              by_cases h12 : (r + 1) < 12
              · rw [if_pos h12, hb, Bool.or_true]
                exact ⟨fun _ => rfl, fun _ => nI_lt (a := 28) (b := 40 - (r + 1)) (by omega) (by omega)⟩
              · rw [if_neg h12, hL0 (by omega), b_0]
                exact ⟨fun q => absurd q (Int32.not_lt.mpr (nI_le (a := 40 - (r + 1)) (b := 28) (by omega) (by decide))), fun q => absurd q (by decide)⟩
            · rw [if_neg hb]
              have hb2 : bt (if (r + 1) < 12 then maskF S1 else 0) j = false := by
                split
                · simpa using hb
                · exact b_0 j
              rw [hb2, Bool.or_false]
              exact hCI j hj
          have hLb2 : ∀ k, k < 32 → bt (L ||| (if (r + 1) < 12 then maskF S1 else 0)) k = true → k < 5 ∧ roundF S1 92 k ≠ 3 := fun k hk hb => by
            rw [b_or, Bool.or_eq_true] at hb
            rcases hb with hb | hb
            · exact ⟨(hLb k hk hb).1, fun q => (hLb k hk hb).2 ((roundF_st S1 k).mp q)⟩
            · split at hb
              · have := maskF_bt hR1 hk hb
                exact ⟨this.1, fun q => this.2 ((roundF_st S1 k).mp q)⟩
              · rw [b_0] at hb; cases hb
          have hn2 : ncut (roundF S1) = ncut S1 := ncut_eq (fun k => roundF_st S1 k)
          refine J_iload_n (i := 2) hT dX6_settle_34 rfl rfl ?_
          refine J_bipush (v := 40) hT dX6_settle_35 rfl ?_
          refine J_icmp_lt (tgt := 50) hT dX6_settle_37 (by decide) (fun _ => ?_) (fun q => absurd (nI_lt (a := 40 - (r + 1)) (b := 40) (by omega) (by decide)) q)
          refine S_iinc3 hT dX6_settle_50 (nI_inc _) rfl ?_
          refine J_goto (tgt := 12) hT dX6_settle_53 (by decide) ?_
          have hgo := ihr (by omega) B (roundF S1) (L ||| (if r + 1 < 12 then maskF S1 else 0)) σ3 hM3' hR1.round (hX1.round hR1) (fun q => hLn (by omega)) hCn hLb2 (by omega) (by omega) hf3' he1 (by omega)
          rw [show B + (40 - (r + 1 + 1)) + 1 = B + (40 - (r + 1)) by omega]
          exact hgo
        · have h0 := resF_0 0 (r + 1) L (Decidable.not_not.mp (of_decide_eq_false (zbi_0.mp q29)))
          have hx1 : SF = roundF S1 := by rw [he1, h0]
          have hx2 : N = B + (40 - ((r + 1) + 1)) + 1 := by rw [he2, h0]
          clear he1 he2 h0
          refine J_iload_n (i := 3) hT dX6_settle_32 rfl rfl ?_
          exact J_iret hT dX6_settle_33 rfl rfl (⟨by rw [hx2], hx1 ▸ ⟨σ3, rfl, hM3', hf3'⟩⟩) (Nat.le_refl _) (Nat.le_refl _)
    | succ f ihf =>
      intro hf5 r
      induction r with
      | zero =>
        intro hr B S1 L σ1 hM1 hR1 hX1 hL0 hCI hLb hn hB2 hf1 he1 he2
        refine J_iload_n (i := 3) hT dX6_settle_12 rfl rfl ?_
        refine J_iload_n (i := 1) hT dX6_settle_13 rfl rfl ?_
        refine J_icmp_gt (tgt := 56) hT dX6_settle_14 (by decide) (fun q => absurd q (Int32.not_lt.mpr (nI_le (a := B + (40 - (0 + 1)) + 1) (b := 240) (by omega) (by decide)))) (fun _ => ?_)
        refine S_iinc2 hT dX6_settle_17 (show nI (40 - (0 + 1)) + Int32.ofInt 1 = nI (40 - 0) from (nI_inc _).trans (congrArg nI (by omega))) rfl ?_
        refine J_aload_n (i := 0) hT dX6_settle_20 rfl rfl ?_
        refine J_callV (ci := 6) hY dX6_settle_21 mfX6_workOutDirtyCells miX6_workOutDirtyCells msX6_workOutDirtyCells kX6_165 ⟨by decide, rfl⟩ hB.k (c_X6_workOutDirtyCells hZ hO ht hM1 hR1 hX1) rfl (by decide) rfl rfl (Nat.le_of_ble_eq_true rfl) (Nat.le_refl _) (Nat.le_refl _) (fun r1 μ1 hq1 => ?_)
        obtain ⟨rfl, σ2, π2, rfl, hM2, hf2, rfl, hc2⟩ := hq1
        refine J_aload_n (i := 0) hT dX6_settle_24 rfl rfl ?_
        refine J_iload_n (i := 2) hT dX6_settle_25 rfl rfl ?_
        refine J_callV (ci := 6) hY dX6_settle_26 mfX6_lookAtServices miX6_lookAtServices msX6_lookAtServices kX6_168 ⟨by decide, rfl⟩ hB.k (c_X6_lookAtServices hZ ht hM2 hR1.works (hX1.works hR1)) rfl (by decide) rfl rfl (Nat.le_of_ble_eq_true rfl) (Nat.le_refl _) (Nat.le_refl _) (fun r2 μ2 hq2 => ?_)
        obtain ⟨rfl, σ3, π3, rfl, hM3, hf3, rfl, hc3⟩ := hq2
        have hM3' : mo t μ σ3 π3 (roundF S1) := hM3
        have hRM : rdM (worksF S1) 5 = maskF S1 := rfl
        have hf3' : zfT t σ σ3 := hf1.tr (hf2.tr hf3)
        rw [hRM] at hc3
        refine J_if_ne (tgt := 34) hT dX6_settle_29 (by decide) (fun q29 => ?_) (fun q29 => ?_)
        · have hmz : maskF S1 ≠ 0 := of_decide_eq_true (zbi_ne.mp q29)
          rw [resF_1 (f + 1) 0 L hmz] at he1 he2
          dsimp only at he1 he2
          have hLn : (12 ≤ 0 → L ||| (if 0 < 12 then maskF S1 else 0) = 0) := fun q => by rw [hL0 (by omega), if_neg (by omega)]; rfl
          have hCn : ∀ j, j < 5 → (28 < σ3 (t + 25 + j) 13 ↔ bt (L ||| (if 0 < 12 then maskF S1 else 0)) j = true) := fun j hj => by
            rw [hc3 j hj, hc2 j hj, b_or]
            by_cases hb : bt (maskF S1) j = true
            · rw [if_pos hb]
              by_cases h12 : 0 < 12
              · rw [if_pos h12, hb, Bool.or_true]
                exact ⟨fun _ => rfl, fun _ => nI_lt (a := 28) (b := 40 - 0) (by omega) (by omega)⟩
              · rw [if_neg h12, hL0 (by omega), b_0]
                exact ⟨fun q => absurd q (Int32.not_lt.mpr (nI_le (a := 40 - 0) (b := 28) (by omega) (by decide))), fun q => absurd q (by decide)⟩
            · rw [if_neg hb]
              have hb2 : bt (if 0 < 12 then maskF S1 else 0) j = false := by
                split
                · simpa using hb
                · exact b_0 j
              rw [hb2, Bool.or_false]
              exact hCI j hj
          have hLb2 : ∀ k, k < 32 → bt (L ||| (if 0 < 12 then maskF S1 else 0)) k = true → k < 5 ∧ roundF S1 92 k ≠ 3 := fun k hk hb => by
            rw [b_or, Bool.or_eq_true] at hb
            rcases hb with hb | hb
            · exact ⟨(hLb k hk hb).1, fun q => (hLb k hk hb).2 ((roundF_st S1 k).mp q)⟩
            · split at hb
              · have := maskF_bt hR1 hk hb
                exact ⟨this.1, fun q => this.2 ((roundF_st S1 k).mp q)⟩
              · rw [b_0] at hb; cases hb
          have hn2 : ncut (roundF S1) = ncut S1 := ncut_eq (fun k => roundF_st S1 k)
          rw [if_pos (by decide : 0 < 12)] at hCn hLb2 he1 he2
          rw [resF_c] at he1 he2
          dsimp only at he1 he2
          have hexb : ∃ k, k < 5 ∧ bt (L ||| maskF S1) k = true := by
            obtain ⟨k, hk, hb⟩ := bt_ex hmz
            exact ⟨k, (maskF_bt hR1 hk hb).1, by rw [b_or, hb, Bool.or_true]⟩
          obtain ⟨hw5, hwb, -⟩ := lowN_ok hexb
          have hw3 := (hLb2 _ (by omega) hwb).2
          have hncut : ncut (cutF (roundF S1) (lowN (L ||| maskF S1))) < ncut (roundF S1) := ncut_cut hw5 hw3
          refine J_iload_n (i := 2) hT dX6_settle_34 rfl rfl ?_
          refine J_bipush (v := 40) hT dX6_settle_35 rfl ?_
          refine J_icmp_lt (tgt := 50) hT dX6_settle_37 (by decide) (fun q => absurd q (Int32.not_lt.mpr (nI_le (a := 40) (b := 40 - 0) (by decide) (by decide)))) (fun _ => ?_)
          refine J_aload_n (i := 0) hT dX6_settle_40 rfl rfl ?_
          refine J_callV (ci := 6) hY dX6_settle_41 mfX6_cutLowestOfLateChanges miX6_cutLowestOfLateChanges msX6_cutLowestOfLateChanges kX6_171 ⟨by decide, rfl⟩ hB.k (c_X6_cutLowestOfLateChanges hZ ht hM3' hCn hexb) rfl (by decide) rfl rfl (Nat.le_of_ble_eq_true rfl) (Nat.le_refl _) (Nat.le_refl _) (fun r3 μ3 hq3 => ?_)
          obtain ⟨rfl, σ4, rfl, hM4, hf4⟩ := hq3
          refine J_aload_n (i := 0) hT dX6_settle_44 rfl rfl ?_
          refine J_callV (ci := 6) hY dX6_settle_45 mfX6_forgetChanges miX6_forgetChanges msX6_forgetChanges kX6_162 ⟨by decide, rfl⟩ hB.k (c_X6_forgetChanges hZ ht hM4) rfl (by decide) rfl rfl (Nat.le_of_ble_eq_true rfl) (Nat.le_refl _) (Nat.le_refl _) (fun r4 μ4 hq4 => ?_)
          obtain ⟨rfl, σ5, rfl, hM5, hf5, hz5⟩ := hq4
          refine J_iconst (v := 0) hT dX6_settle_48 rfl ?_
          refine S_istore2 hT dX6_settle_49 rfl rfl ?_
          refine S_iinc3 hT dX6_settle_50 (nI_inc _) rfl ?_
          refine J_goto (tgt := 12) hT dX6_settle_53 (by decide) ?_
          exact ihf (by omega) 39 (by decide) (B + 40) (cutF (roundF S1) (lowN (L ||| maskF S1))) 0 σ5 hM5 (hR1.round.cut _) ((hX1.round hR1).cut _) (fun _ => rfl) (fun j hj => by rw [hz5 j hj, b_0]; exact ⟨fun q => absurd q (by decide), fun q => absurd q (by decide)⟩) (fun k _ hb => by rw [b_0] at hb; cases hb) (by omega) (by omega) (hf3'.tr (hf4.tr hf5)) (by rw [← resF_set]; exact he1) (by rw [← resF_set]; omega)
        · have h0 := resF_0 (f + 1) 0 L (Decidable.not_not.mp (of_decide_eq_false (zbi_0.mp q29)))
          have hx1 : SF = roundF S1 := by rw [he1, h0]
          have hx2 : N = B + (40 - (0 + 1)) + 1 := by rw [he2, h0]
          clear he1 he2 h0
          refine J_iload_n (i := 3) hT dX6_settle_32 rfl rfl ?_
          exact J_iret hT dX6_settle_33 rfl rfl (⟨by rw [hx2], hx1 ▸ ⟨σ3, rfl, hM3', hf3'⟩⟩) (Nat.le_refl _) (Nat.le_refl _)
      | succ r ihr =>
        intro hr B S1 L σ1 hM1 hR1 hX1 hL0 hCI hLb hn hB2 hf1 he1 he2
        refine J_iload_n (i := 3) hT dX6_settle_12 rfl rfl ?_
        refine J_iload_n (i := 1) hT dX6_settle_13 rfl rfl ?_
        refine J_icmp_gt (tgt := 56) hT dX6_settle_14 (by decide) (fun q => absurd q (Int32.not_lt.mpr (nI_le (a := B + (40 - ((r + 1) + 1)) + 1) (b := 240) (by omega) (by decide)))) (fun _ => ?_)
        refine S_iinc2 hT dX6_settle_17 (show nI (40 - ((r + 1) + 1)) + Int32.ofInt 1 = nI (40 - (r + 1)) from (nI_inc _).trans (congrArg nI (by omega))) rfl ?_
        refine J_aload_n (i := 0) hT dX6_settle_20 rfl rfl ?_
        refine J_callV (ci := 6) hY dX6_settle_21 mfX6_workOutDirtyCells miX6_workOutDirtyCells msX6_workOutDirtyCells kX6_165 ⟨by decide, rfl⟩ hB.k (c_X6_workOutDirtyCells hZ hO ht hM1 hR1 hX1) rfl (by decide) rfl rfl (Nat.le_of_ble_eq_true rfl) (Nat.le_refl _) (Nat.le_refl _) (fun r1 μ1 hq1 => ?_)
        obtain ⟨rfl, σ2, π2, rfl, hM2, hf2, rfl, hc2⟩ := hq1
        refine J_aload_n (i := 0) hT dX6_settle_24 rfl rfl ?_
        refine J_iload_n (i := 2) hT dX6_settle_25 rfl rfl ?_
        refine J_callV (ci := 6) hY dX6_settle_26 mfX6_lookAtServices miX6_lookAtServices msX6_lookAtServices kX6_168 ⟨by decide, rfl⟩ hB.k (c_X6_lookAtServices hZ ht hM2 hR1.works (hX1.works hR1)) rfl (by decide) rfl rfl (Nat.le_of_ble_eq_true rfl) (Nat.le_refl _) (Nat.le_refl _) (fun r2 μ2 hq2 => ?_)
        obtain ⟨rfl, σ3, π3, rfl, hM3, hf3, rfl, hc3⟩ := hq2
        have hM3' : mo t μ σ3 π3 (roundF S1) := hM3
        have hRM : rdM (worksF S1) 5 = maskF S1 := rfl
        have hf3' : zfT t σ σ3 := hf1.tr (hf2.tr hf3)
        rw [hRM] at hc3
        refine J_if_ne (tgt := 34) hT dX6_settle_29 (by decide) (fun q29 => ?_) (fun q29 => ?_)
        · have hmz : maskF S1 ≠ 0 := of_decide_eq_true (zbi_ne.mp q29)
          rw [resF_1 (f + 1) (r + 1) L hmz] at he1 he2
          dsimp only at he1 he2
          have hLn : (12 ≤ (r + 1) → L ||| (if (r + 1) < 12 then maskF S1 else 0) = 0) := fun q => by rw [hL0 (by omega), if_neg (by omega)]; rfl
          have hCn : ∀ j, j < 5 → (28 < σ3 (t + 25 + j) 13 ↔ bt (L ||| (if (r + 1) < 12 then maskF S1 else 0)) j = true) := fun j hj => by
            rw [hc3 j hj, hc2 j hj, b_or]
            by_cases hb : bt (maskF S1) j = true
            · rw [if_pos hb]
              by_cases h12 : (r + 1) < 12
              · rw [if_pos h12, hb, Bool.or_true]
                exact ⟨fun _ => rfl, fun _ => nI_lt (a := 28) (b := 40 - (r + 1)) (by omega) (by omega)⟩
              · rw [if_neg h12, hL0 (by omega), b_0]
                exact ⟨fun q => absurd q (Int32.not_lt.mpr (nI_le (a := 40 - (r + 1)) (b := 28) (by omega) (by decide))), fun q => absurd q (by decide)⟩
            · rw [if_neg hb]
              have hb2 : bt (if (r + 1) < 12 then maskF S1 else 0) j = false := by
                split
                · simpa using hb
                · exact b_0 j
              rw [hb2, Bool.or_false]
              exact hCI j hj
          have hLb2 : ∀ k, k < 32 → bt (L ||| (if (r + 1) < 12 then maskF S1 else 0)) k = true → k < 5 ∧ roundF S1 92 k ≠ 3 := fun k hk hb => by
            rw [b_or, Bool.or_eq_true] at hb
            rcases hb with hb | hb
            · exact ⟨(hLb k hk hb).1, fun q => (hLb k hk hb).2 ((roundF_st S1 k).mp q)⟩
            · split at hb
              · have := maskF_bt hR1 hk hb
                exact ⟨this.1, fun q => this.2 ((roundF_st S1 k).mp q)⟩
              · rw [b_0] at hb; cases hb
          have hn2 : ncut (roundF S1) = ncut S1 := ncut_eq (fun k => roundF_st S1 k)
          refine J_iload_n (i := 2) hT dX6_settle_34 rfl rfl ?_
          refine J_bipush (v := 40) hT dX6_settle_35 rfl ?_
          refine J_icmp_lt (tgt := 50) hT dX6_settle_37 (by decide) (fun _ => ?_) (fun q => absurd (nI_lt (a := 40 - (r + 1)) (b := 40) (by omega) (by decide)) q)
          refine S_iinc3 hT dX6_settle_50 (nI_inc _) rfl ?_
          refine J_goto (tgt := 12) hT dX6_settle_53 (by decide) ?_
          have hgo := ihr (by omega) B (roundF S1) (L ||| (if r + 1 < 12 then maskF S1 else 0)) σ3 hM3' hR1.round (hX1.round hR1) (fun q => hLn (by omega)) hCn hLb2 (by omega) (by omega) hf3' he1 (by omega)
          rw [show B + (40 - (r + 1 + 1)) + 1 = B + (40 - (r + 1)) by omega]
          exact hgo
        · have h0 := resF_0 (f + 1) (r + 1) L (Decidable.not_not.mp (of_decide_eq_false (zbi_0.mp q29)))
          have hx1 : SF = roundF S1 := by rw [he1, h0]
          have hx2 : N = B + (40 - ((r + 1) + 1)) + 1 := by rw [he2, h0]
          clear he1 he2 h0
          refine J_iload_n (i := 3) hT dX6_settle_32 rfl rfl ?_
          exact J_iret hT dX6_settle_33 rfl rfl (⟨by rw [hx2], hx1 ▸ ⟨σ3, rfl, hM3', hf3'⟩⟩) (Nat.le_refl _) (Nat.le_refl _)
  refine J_sipush (v := 240) hT dX6_settle_0 rfl ?_
  refine S_istore1 hT dX6_settle_3 rfl rfl ?_
  refine J_iconst (v := 0) hT dX6_settle_4 rfl ?_
  refine S_istore2 hT dX6_settle_5 rfl rfl ?_
  refine J_aload_n (i := 0) hT dX6_settle_6 rfl rfl ?_
  refine J_callV (ci := 6) hY dX6_settle_7 mfX6_forgetChanges miX6_forgetChanges msX6_forgetChanges kX6_162 ⟨by decide, rfl⟩ hB.k (c_X6_forgetChanges hZ ht hM) rfl (by decide) rfl rfl (Nat.le_of_ble_eq_true rfl) (Nat.le_refl _) (Nat.le_refl _) (fun r1 μ1 hq1 => ?_)
  obtain ⟨rfl, σ1, rfl, hM1, hf1, hz1⟩ := hq1
  refine J_iconst (v := 1) hT dX6_settle_10 rfl ?_
  refine S_istore3 hT dX6_settle_11 rfl rfl ?_
  exact loop 5 (Nat.le_refl _) 39 (by decide) 0 S 0 σ1 hM1 hR hX (fun _ => rfl) (fun j hj => by rw [hz1 j hj, b_0]; exact ⟨fun q => absurd q (by decide), fun q => absurd q (by decide)⟩) (fun k _ hb => by rw [b_0] at hb; cases hb) (by unfold ncut; exact Nat.le_trans List.countP_le_length (by simp)) (by decide) hf1 (by rw [← resF_set]; exact hSF) (by rw [← resF_set, show 5 + 1 = 6 from rfl, ← hN]; simp)


