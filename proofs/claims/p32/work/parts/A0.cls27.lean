theorem CW.zf {n : Nat} {S : zS2} {μ : zMem} {σ : zS2} {π : zP2} (h : CW n S μ σ π) {t : Nat} (ht : ta t) : zTb t μ π ∧ zNm t σ ∧ zZf t μ σ π := by
  rcases ht with e | e
  · subst e; exact ⟨h.m.1.tb, h.m.1.2.1, h.z5⟩
  · subst e; exact h.t35
theorem CW.fst {n : Nat} {S : zS2} {μ : zMem} {σ σ1 : zS2} {π π1 : zP2} (h : CW n S μ σ π) {t : Nat} (ht : ta t) (hf : zfT t σ σ1) (hp : zfP t π π1) {X : zS2} (hk : zkf S X) {k : Nat} (hkn : k < n) : ∃ sp, π1 65 k = some sp ∧ zSp μ σ1 π1 sp X k := by
  obtain ⟨sp, e, hsp⟩ := h.st hkn
  refine ⟨sp, by rw [hp 65 k (by unfold ta at ht; unfold zmp; omega)]; exact e, hsp.mv zgr.rf (fun b hb _ j => ?_) (fun b hb _ j => ?_) (fun b hb => zkf_s7 hk (by
    simp only [List.mem_cons, List.not_mem_nil, or_false] at hb ⊢; omega) k) (fun i _ => zkf_s7 hk (by decide) _)⟩
  · rcases hb with hb | hb
    · exact hf.io ht hb j
    · exact hf.im ht hb j
  · rcases hb with hb | hb
    · exact hp.io ht hb j
    · exact hp.im ht hb j

set_option maxRecDepth 100000 in
set_option maxHeartbeats 4000000 in
theorem c_X8_tellAnew {l : Launch} {Z : zZ} (hZ : zSt l Z) (hO : zOps Z) {μ : zMem} {σ : zS2} {π : zP2} {g : zG2} {n : Nat} {S : zS2} (hC : CW n S μ σ π) {t : Nat} (ht : ta t) (hn40 : n ≤ 40) (hR : CR n S) : zCt l Z mX8_tellAnew 6 0 0 [.ref 0, .ref t] (zA4 μ σ π g) (fun r μ' => r = none ∧ zE0 t μ σ π g (rpF S n) μ') := by
  refine zCt_of hZ mpX8_tellAnew (Nat.le_of_ble_eq_true rfl) (L := [some (.ref 0), some (.ref t), none, none]) rfl (fun τ hY => ?_)
  have hT := hY.1
  obtain ⟨hBt, hNt, hZt⟩ := hC.zf ht
  have loop : ∀ d i, i + d = n → ∀ σ1 π1, mo t μ σ1 π1 (rpF S i) → zfT t σ σ1 → zfP t π π1 → zJ τ (zFn τ (fun r μ' => r = none ∧ zE0 t μ σ π g (rpF S n) μ') 0 0) 6 [some (.ref 0), some (.ref t), some (.int (nI i)), none] [] (zA4 μ σ1 π1 g) 0 0 := by
    intro d
    induction d with
    | zero =>
      intro i hi
      have : i = n := by omega
      subst this
      intro σ1 π1 hM1 hf1 hp1
      have hn0 : σ1 0 5 = nI i := by rw [hf1 0 5 (by unfold ta at ht; unfold zmu; omega)]; exact hC.ct
      have hp04 : π1 0 4 = some 65 := by rw [hp1 0 4 (by unfold ta at ht; unfold zmp; omega)]; exact hC.p4
      refine J_iload_n (i := 2) hT dX8_tellAnew_6 rfl rfl ?_
      refine J_aload_n (i := 0) hT dX8_tellAnew_7 rfl rfl ?_
      refine R_getI hT fX8_41 rfl dX8_tellAnew_8 hC.k0 ?_
      refine J_topil (hn0) ?_
      refine J_icmp_ge (tgt := 46) hT dX8_tellAnew_11 (by decide) (fun _ => ?_) (fun q => absurd (nI_le (a := i) (b := i) (Nat.le_refl _) (by omega)) q)
      exact J_vret hT dX8_tellAnew_46 rfl (⟨rfl, σ1, π1, rfl, hM1, hf1, hp1⟩) (Nat.le_refl _) (Nat.le_refl _)
    | succ d ih =>
      intro i hi
      intro σ1 π1 hM1 hf1 hp1
      have hn0 : σ1 0 5 = nI n := by rw [hf1 0 5 (by unfold ta at ht; unfold zmu; omega)]; exact hC.ct
      have hp04 : π1 0 4 = some 65 := by rw [hp1 0 4 (by unfold ta at ht; unfold zmp; omega)]; exact hC.p4
      have hin : i < n := by omega
      obtain ⟨sp, hspe, hsp⟩ := hC.fst ht hf1 hp1 (rpF_k S i) hin
      obtain ⟨s1, s2, s3, s4⟩ := hR.step hin
      obtain ⟨k1, k2⟩ := hR.kq i (by omega)
      obtain ⟨X, hXe⟩ : ∃ X, X = rpF S i := ⟨_, rfl⟩
      have hnext : rpF S (i + 1) = (doF X i).1 := by rw [hXe]; rfl
      rw [← hXe] at hM1 hsp s1 s2 s3 s4 k1 k2
      refine J_iload_n (i := 2) hT dX8_tellAnew_6 rfl rfl ?_
      refine J_aload_n (i := 0) hT dX8_tellAnew_7 rfl rfl ?_
      refine R_getI hT fX8_41 rfl dX8_tellAnew_8 hC.k0 ?_
      refine J_topil (hn0) ?_
      refine J_icmp_ge (tgt := 46) hT dX8_tellAnew_11 (by decide) (fun q => absurd q (Int32.not_le.mpr (nI_lt (a := i) (b := n) (by omega) (by omega)))) (fun _ => ?_)
      refine J_iload_n (i := 2) hT dX8_tellAnew_14 rfl rfl ?_
      refine J_aload_n (i := 0) hT dX8_tellAnew_15 rfl rfl ?_
      refine R_getP hT fX8_37 rfl dX8_tellAnew_16 hC.k0 hp04 ?_
      refine R_alen hT dX8_tellAnew_19 (by rw [hC.k65]; decide) hC.l65 ?_
      refine J_icmp_ge (tgt := 46) hT dX8_tellAnew_20 (by decide) (fun q => absurd q (Int32.not_le.mpr (nI_lt (a := i) (b := 40) (by omega) (by decide)))) (fun _ => ?_)
      refine J_aload_n (i := 0) hT dX8_tellAnew_23 rfl rfl ?_
      refine R_getP hT fX8_37 rfl dX8_tellAnew_24 hC.k0 hp04 ?_
      refine J_iload_n (i := 2) hT dX8_tellAnew_27 rfl rfl ?_
      refine R_aald1 hT dX8_tellAnew_28 hC.k65 (by decide) hC.l65 (by first | exact ⟨rfl, by decide⟩ | exact zix_nI (by omega) (by decide) | assumption) hspe ?_
      refine S_astore3 hT dX8_tellAnew_29 rfl rfl ?_
      refine J_aload_n (i := 3) hT dX8_tellAnew_30 rfl rfl ?_
      refine J_ifnull hT dX8_tellAnew_31 ?_
      refine J_aload_n (i := 1) hT dX8_tellAnew_34 rfl rfl ?_
      refine J_aload_n (i := 3) hT dX8_tellAnew_35 rfl rfl ?_
      refine J_callV (ci := 6) hY dX8_tellAnew_36 mfX6_tell miX6_tell msX6_tell kX8_214 ⟨by decide, rfl⟩ hM1.1.tb.k (c_X6_tellD hZ hO ht hM1 k1 k2 hsp s1 s2 s3 s4) rfl (by decide) rfl rfl (Nat.le_of_ble_eq_true rfl) (Nat.le_refl _) (Nat.le_refl _) (fun r2 μ2 hq2 => ?_)
      obtain ⟨rfl, σ2, π2, rfl, hM2, hf2, hp2⟩ := hq2
      show zJ _ _ _ _ (.int _ :: _) _ _ _
      refine J_pop hT dX8_tellAnew_39 rfl ?_
      refine S_iinc2 hT dX8_tellAnew_40 (nI_inc _) rfl ?_
      refine J_goto (tgt := 6) hT dX8_tellAnew_43 (by decide) ?_
      refine J_L (L' := [_, _, _, none]) (zsub_keep (zsub_keep (zsub_keep (zsub_drop zsub_nil)))) ?_
      exact ih (i + 1) (by omega) σ2 π2 (by rw [hnext]; exact hM2) (hf1.tr hf2) (hp1.tr hp2)
  refine J_aload_n (i := 1) hT dX8_tellAnew_0 rfl rfl ?_
  refine J_callV (ci := 6) hY dX8_tellAnew_1 mfX6_clear miX6_clear msX6_clear kX8_224 ⟨by decide, rfl⟩ hBt.k (c_X6_clear hZ ht S hBt hNt hZt) rfl (by decide) rfl rfl (Nat.le_of_ble_eq_true rfl) (Nat.le_refl _) (Nat.le_refl _) (fun r1 μ1 hq1 => ?_)
  obtain ⟨rfl, σ0, π0, rfl, hM0, hf0, hp0⟩ := hq1
  refine J_iconst (v := 0) hT dX8_tellAnew_4 rfl ?_
  refine S_istore2 hT dX8_tellAnew_5 rfl rfl ?_
  exact loop n 0 (by omega) σ0 π0 hM0 hf0 hp0

set_option maxRecDepth 100000 in
set_option maxHeartbeats 4000000 in
theorem c_X8_tellReadingsOfTick {l : Launch} {Z : zZ} (hZ : zSt l Z) (hO : zOps Z) {μ : zMem} {σ : zS2} {π : zP2} {g : zG2} {n : Nat} {S : zS2} (hC : CW n S μ σ π) (hn40 : n ≤ 40) {X : zS2} (hMX : mo 35 μ σ π X) (hkX : zkf S X) (hv : ∀ k, k < n → stepV X k) (hx : ∀ k, k < n → stX X k) (hK : KI X) (hQ : QS X) {E : Nat} (hE : X 67 34 = nI E) (hE2 : E ≤ 2000) : zCt l Z mX8_tellReadingsOfTick 6 0 0 [.ref 0, .ref 35] (zA4 μ σ π g) (fun r μ' => r = none ∧ zE0 35 μ σ π g (raF X n) μ') := by
  refine zCt_of hZ mpX8_tellReadingsOfTick (Nat.le_of_ble_eq_true rfl) (L := [some (.ref 0), some (.ref 35), none, none]) rfl (fun τ hY => ?_)
  have hT := hY.1
  have loop : ∀ d i, i + d = n → ∀ σ1 π1, mo 35 μ σ1 π1 (raF X i) → zfT 35 σ σ1 → zfP 35 π π1 → zJ τ (zFn τ (fun r μ' => r = none ∧ zE0 35 μ σ π g (raF X n) μ') 0 0) 2 [some (.ref 0), some (.ref 35), some (.int (nI i)), none] [] (zA4 μ σ1 π1 g) 0 0 := by
    intro d
    induction d with
    | zero =>
      intro i hi
      have : i = n := by omega
      subst this
      intro σ1 π1 hM1 hf1 hp1
      have hn0 : σ1 0 5 = nI i := by rw [hf1 0 5 (by unfold zmu; omega)]; exact hC.ct
      have hp04 : π1 0 4 = some 65 := by rw [hp1 0 4 (by unfold zmp; omega)]; exact hC.p4
      refine J_iload_n (i := 2) hT dX8_tellReadingsOfTick_2 rfl rfl ?_
      refine J_aload_n (i := 0) hT dX8_tellReadingsOfTick_3 rfl rfl ?_
      refine R_getI hT fX8_41 rfl dX8_tellReadingsOfTick_4 hC.k0 ?_
      refine J_topil (hn0) ?_
      refine J_icmp_ge (tgt := 61) hT dX8_tellReadingsOfTick_7 (by decide) (fun _ => ?_) (fun q => absurd (nI_le (a := i) (b := i) (Nat.le_refl _) (by omega)) q)
      exact J_vret hT dX8_tellReadingsOfTick_61 rfl (⟨rfl, σ1, π1, rfl, hM1, hf1, hp1⟩) (Nat.le_refl _) (Nat.le_refl _)
    | succ d ih =>
      intro i hi
      intro σ1 π1 hM1 hf1 hp1
      have hn0 : σ1 0 5 = nI n := by rw [hf1 0 5 (by unfold zmu; omega)]; exact hC.ct
      have hp04 : π1 0 4 = some 65 := by rw [hp1 0 4 (by unfold zmp; omega)]; exact hC.p4
      have hin : i < n := by omega
      obtain ⟨sp, hspe, hsp⟩ := hC.fst ta35 hf1 hp1 (zkf_trans hkX (raF_k X i)) hin
      obtain ⟨k1, k2⟩ := raF_kq hK hQ hx (by rw [hE]; exact nI_ge0 hE2) i (by omega)
      have hnw : raF X i 67 34 = nI E := by rw [raF_now]; exact hE
      have s1 := stepV_zkf (raF_k X i) (hv i hin)
      have s2 := stX_zkf (raF_k X i) (hx i hin)
      have hne : raF X (i + 1) = if raF X i 98 i = 3 ∧ raF X i 102 i = raF X i 67 34 then (setF 6 (readF (raF X i) (stC (raF X i) i) (raF X i 100 i))).1 else raF X i := rfl
      obtain ⟨Y, hYe⟩ : ∃ Y, Y = raF X i := ⟨_, rfl⟩
      rw [← hYe] at hM1 hsp s1 s2 k1 k2 hnw hne
      obtain ⟨hio, hspn, hk, hk0, hk1, he2, he3, he5, _⟩ := id hsp
      have hchg : Y 98 i = 3 → doF Y i = setF 6 (readF Y (stC Y i) (Y 100 i)) := fun q => by
        unfold doF
        rw [if_neg (by rw [q]; decide), chgF_kd (k := 3) (by decide) (q.trans (by rfl)), if_neg (by decide), if_pos rfl]
      refine J_iload_n (i := 2) hT dX8_tellReadingsOfTick_2 rfl rfl ?_
      refine J_aload_n (i := 0) hT dX8_tellReadingsOfTick_3 rfl rfl ?_
      refine R_getI hT fX8_41 rfl dX8_tellReadingsOfTick_4 hC.k0 ?_
      refine J_topil (hn0) ?_
      refine J_icmp_ge (tgt := 61) hT dX8_tellReadingsOfTick_7 (by decide) (fun q => absurd q (Int32.not_le.mpr (nI_lt (a := i) (b := n) (by omega) (by omega)))) (fun _ => ?_)
      refine J_iload_n (i := 2) hT dX8_tellReadingsOfTick_10 rfl rfl ?_
      refine J_aload_n (i := 0) hT dX8_tellReadingsOfTick_11 rfl rfl ?_
      refine R_getP hT fX8_37 rfl dX8_tellReadingsOfTick_12 hC.k0 hp04 ?_
      refine R_alen hT dX8_tellReadingsOfTick_15 (by rw [hC.k65]; decide) hC.l65 ?_
      refine J_icmp_ge (tgt := 61) hT dX8_tellReadingsOfTick_16 (by decide) (fun q => absurd q (Int32.not_le.mpr (nI_lt (a := i) (b := 40) (by omega) (by decide)))) (fun _ => ?_)
      refine J_aload_n (i := 0) hT dX8_tellReadingsOfTick_19 rfl rfl ?_
      refine R_getP hT fX8_37 rfl dX8_tellReadingsOfTick_20 hC.k0 hp04 ?_
      refine J_iload_n (i := 2) hT dX8_tellReadingsOfTick_23 rfl rfl ?_
      refine R_aald1 hT dX8_tellReadingsOfTick_24 hC.k65 (by decide) hC.l65 (by first | exact ⟨rfl, by decide⟩ | exact zix_nI (by omega) (by decide) | assumption) hspe ?_
      refine S_astore3 hT dX8_tellReadingsOfTick_25 rfl rfl ?_
      refine J_aload_n (i := 3) hT dX8_tellReadingsOfTick_26 rfl rfl ?_
      refine J_ifnull hT dX8_tellReadingsOfTick_27 ?_
      refine J_aload_n (i := 3) hT dX8_tellReadingsOfTick_30 rfl rfl ?_
      refine R_getI hT fX8_227 rfl dX8_tellReadingsOfTick_31 hk ?_
      refine J_topil (hk0) ?_
      refine J_iconst (v := 3) hT dX8_tellReadingsOfTick_34 rfl ?_
      refine J_icmp_ne (tgt := 55) hT dX8_tellReadingsOfTick_35 (by decide) (fun q35 => ?_) (fun q35 => ?_)
      · refine S_iinc2 hT dX8_tellReadingsOfTick_55 (nI_inc _) rfl ?_
        refine J_goto (tgt := 2) hT dX8_tellReadingsOfTick_58 (by decide) ?_
        refine J_L (L' := [_, _, _, none]) (zsub_keep (zsub_keep (zsub_keep (zsub_drop zsub_nil)))) ?_
        first
          | exact ih (i + 1) (by omega) σ2 π2 (by rw [hne, if_pos ⟨q35, q46⟩, ← hchg q35]; exact hM2) (hf1.tr hf2) (hp1.tr hp2)
          | exact ih (i + 1) (by omega) σ1 π1 (by rw [hne, if_neg (fun z => q35 z.1)]; exact hM1) hf1 hp1
          | exact ih (i + 1) (by omega) σ1 π1 (by rw [hne, if_neg (fun z => q46 z.2)]; exact hM1) hf1 hp1
      · refine J_aload_n (i := 3) hT dX8_tellReadingsOfTick_38 rfl rfl ?_
        refine R_getI hT fX8_230 rfl dX8_tellReadingsOfTick_39 hk ?_
        refine J_topil (he5) ?_
        refine J_aload_n (i := 1) hT dX8_tellReadingsOfTick_42 rfl rfl ?_
        refine R_getI hT fX8_158 rfl dX8_tellReadingsOfTick_43 hM1.1.tb.k ?_
        refine J_topil (hM1.1.w) ?_
        refine J_icmp_ne (tgt := 55) hT dX8_tellReadingsOfTick_46 (by decide) (fun q46 => ?_) (fun q46 => ?_)
        · refine S_iinc2 hT dX8_tellReadingsOfTick_55 (nI_inc _) rfl ?_
          refine J_goto (tgt := 2) hT dX8_tellReadingsOfTick_58 (by decide) ?_
          refine J_L (L' := [_, _, _, none]) (zsub_keep (zsub_keep (zsub_keep (zsub_drop zsub_nil)))) ?_
          first
            | exact ih (i + 1) (by omega) σ2 π2 (by rw [hne, if_pos ⟨q35, q46⟩, ← hchg q35]; exact hM2) (hf1.tr hf2) (hp1.tr hp2)
            | exact ih (i + 1) (by omega) σ1 π1 (by rw [hne, if_neg (fun z => q35 z.1)]; exact hM1) hf1 hp1
            | exact ih (i + 1) (by omega) σ1 π1 (by rw [hne, if_neg (fun z => q46 z.2)]; exact hM1) hf1 hp1
        · refine J_aload_n (i := 1) hT dX8_tellReadingsOfTick_49 rfl rfl ?_
          refine J_aload_n (i := 3) hT dX8_tellReadingsOfTick_50 rfl rfl ?_
          refine J_callV (ci := 6) hY dX8_tellReadingsOfTick_51 mfX6_tell miX6_tell msX6_tell kX8_214 ⟨by decide, rfl⟩ hM1.1.tb.k (c_X6_tellD hZ hO ta35 hM1 k1 k2 hsp s1 s2 (fun _ => by rw [chgF_kd (k := 3) (by decide) (q35.trans (by rfl)), if_neg (by decide), if_pos rfl]; exact k1.1.read _ _) ⟨E, hnw, hE2, fun q => absurd (q35.symm.trans q) (by decide)⟩) rfl (by decide) rfl rfl (Nat.le_of_ble_eq_true rfl) (Nat.le_refl _) (Nat.le_refl _) (fun r2 μ2 hq2 => ?_)
          obtain ⟨rfl, σ2, π2, rfl, hM2, hf2, hp2⟩ := hq2
          show zJ _ _ _ _ (.int _ :: _) _ _ _
          refine J_pop hT dX8_tellReadingsOfTick_54 rfl ?_
          refine S_iinc2 hT dX8_tellReadingsOfTick_55 (nI_inc _) rfl ?_
          refine J_goto (tgt := 2) hT dX8_tellReadingsOfTick_58 (by decide) ?_
          refine J_L (L' := [_, _, _, none]) (zsub_keep (zsub_keep (zsub_keep (zsub_drop zsub_nil)))) ?_
          first
            | exact ih (i + 1) (by omega) σ2 π2 (by rw [hne, if_pos ⟨q35, q46⟩, ← hchg q35]; exact hM2) (hf1.tr hf2) (hp1.tr hp2)
            | exact ih (i + 1) (by omega) σ1 π1 (by rw [hne, if_neg (fun z => q35 z.1)]; exact hM1) hf1 hp1
            | exact ih (i + 1) (by omega) σ1 π1 (by rw [hne, if_neg (fun z => q46 z.2)]; exact hM1) hf1 hp1
  refine J_iconst (v := 0) hT dX8_tellReadingsOfTick_0 rfl ?_
  refine S_istore2 hT dX8_tellReadingsOfTick_1 rfl rfl ?_
  exact loop n 0 (by omega) σ π hMX zfT.rf zfP.rf

set_option maxRecDepth 100000 in
set_option maxHeartbeats 4000000 in
theorem c_X8_valueAnew {l : Launch} {Z : zZ} (hZ : zSt l Z) (hO : zOps Z) {μ : zMem} {σ : zS2} {π : zP2} {g : zG2} {n : Nat} {S : zS2} (hC : CW n S μ σ π) (hV : CV n S) {c : Nat} (hc : c < 12) : zCt l Z mX8_valueAnew 7 0 0 [.ref 0, .int (nI c)] (zA4 μ σ π g) (fun r μ' => r = some (.int (S 88 c)) ∧ zKp n S μ σ π g μ') := by
  refine zCt_of hZ mpX8_valueAnew (Nat.le_of_ble_eq_true rfl) (L := [some (.ref 0), some (.int (nI c))]) rfl (fun τ hY => ?_)
  have hT := hY.1
  have hz : rpF S n 88 c = S 88 c := ((hV.1.2.2.2.2.2).1 88 (by decide) c).symm
  refine J_iload_n (i := 1) hT dX8_valueAnew_0 rfl rfl ?_
  refine R_callS0 hY dX8_valueAnew_1 mfX8_checkCell mtX8_checkCell kX8_91 (c_X8_checkCell hZ hc) rfl (by decide) rfl rfl (Nat.le_of_ble_eq_true rfl) (Nat.le_refl _) (Nat.le_refl _) ?_
  refine J_aload_n (i := 0) hT dX8_valueAnew_4 rfl rfl ?_
  refine J_aload_n (i := 0) hT dX8_valueAnew_5 rfl rfl ?_
  refine R_getP hT fX8_32 rfl dX8_valueAnew_6 hC.k0 hC.p3 ?_
  refine J_callV (ci := 8) hY dX8_valueAnew_9 mfX8_tellAnew miX8_tellAnew msX8_tellAnew kX8_165 ⟨by decide, rfl⟩ hC.k0 (c_X8_tellAnew hZ hO hC ta35 hV.1.1 hV.cr) rfl (by decide) rfl rfl (Nat.le_of_ble_eq_true rfl) (Nat.le_refl _) (Nat.le_refl _) (fun r1 μ1 hq1 => ?_)
  obtain ⟨rfl, σ1, π1, rfl, hM1, hf1, hp1⟩ := hq1
  refine J_aload_n (i := 0) hT dX8_valueAnew_12 rfl rfl ?_
  refine R_getP hT fX8_32 rfl dX8_valueAnew_13 hC.k0 ((hp1 0 3 (by unfold zmp; omega)).trans hC.p3) ?_
  refine R_getP hT fX8_123 rfl dX8_valueAnew_16 hM1.1.tb.k hM1.1.tb.p1 ?_
  refine J_iload_n (i := 1) hT dX8_valueAnew_19 rfl rfl ?_
  refine R_aald1 hT dX8_valueAnew_20 hM1.1.tb.k3 (by decide) hM1.1.tb.l3 (by first | exact ⟨rfl, by decide⟩ | exact zix_nI (by omega) (by decide) | assumption) (hM1.1.tb.pc hc) ?_
  refine R_getI hT fX8_169 rfl dX8_valueAnew_21 (hM1.1.tb.kc hc) ?_
  refine J_topil ((hM1.1.val hc)) ?_
  exact J_iret hT dX8_valueAnew_24 rfl rfl (⟨by rw [hz], _, σ1, π1, g, rfl, hC.t35s hf1 hp1 hM1, zgr.rf, zcl.tb ta35 hf1 hp1⟩) (Nat.le_refl _) (Nat.le_refl _)

theorem CW.pop {n : Nat} {S S' : zS2} {μ : zMem} {σ : zS2} {π : zP2} (h : CW (n + 1) S μ σ π) (hS : ∀ b j, b ≠ 67 → S' b j = S b j) (h1 : S' 67 33 = S 67 33) (h2 : S' 67 34 = S 67 34) (h3 : S' 67 1 = S 67 1) : CW n S' μ (zu σ 0 5 (nI n)) π := by
  have zs : ∀ b j, b ≠ 0 → zu σ 0 5 (nI n) b j = σ b j := fun b j hb => zu_ne _ _ _ _ hb j
  obtain ⟨a0, ⟨d1, d2, d3⟩, d4, d5, d6, d7, d8, d9, d0⟩ := h
  have hm : mo 5 μ (zu σ 0 5 (nI n)) π S' := by
    refine ⟨(d5.1.fr zgr.rf (fun b hb j => zs b j (by unfold Im at hb; omega)) (fun _ _ _ => rfl)).S (fun x hx k _ => hS _ _ (fun e => (lks_f x hx).2.2.2.2.2 (by rw [e]; decide))) (fun i _ => by rw [hS _ _ (by decide)]) h2 h1 (fun s _ _ => ⟨hS _ _ (by decide), hS _ _ (by decide)⟩) (fun c _ => ⟨hS _ _ (by decide), hS _ _ (by decide), hS _ _ (by decide), hS _ _ (by decide), fun k _ => hS _ _ (by decide)⟩), d5.2.mv (fun _ => rfl) (fun c _ => hS _ _ (by decide))⟩
  refine ⟨a0, ⟨d1, ⟨fun i hi => by rw [zs _ _ (by omega)]; exact d2.1 i hi, fun i hi => by rw [zs _ _ (by omega)]; exact d2.2 i hi⟩, d3.mv (by have := a0.1; omega) zgr.rf (fun b hb j => zs b j (by omega)) (fun _ _ _ => rfl)⟩, d4.mv (by have := a0.1; omega) zgr.rf (fun b hb j => zs b j (by omega)) (fun _ _ _ => rfl), hm, zu_eq _ _ _ _, fun k hk => ?_, ⟨by rw [zs _ _ (by decide)]; exact d8.1, by rw [zs _ _ (by decide)]; exact d8.2⟩, by rw [zs _ _ (by decide), h3]; exact d9, fun i hi => by rw [zs _ _ (by decide), hS _ _ (by decide)]; exact d0 i hi⟩
  obtain ⟨q, e1, e2⟩ := d7 k (by omega)
  exact ⟨q, e1, e2.mv zgr.rf (fun b hb _ j => zs b j (by unfold Io Im at hb; omega)) (fun _ _ _ _ => rfl) (fun b hb => hS b k (by
    simp only [List.mem_cons, List.not_mem_nil, or_false] at hb; omega)) (fun _ _ => hS _ _ (by decide))⟩

set_option maxRecDepth 100000 in
set_option maxHeartbeats 4000000 in
theorem c_X8_undo {l : Launch} {Z : zZ} (hZ : zSt l Z) (hO : zOps Z) {μ : zMem} {σ : zS2} {π : zP2} {g : zG2} {n : Nat} {S : zS2} (hC : CW (n + 1) S μ σ π) (hn40 : n + 1 ≤ 40) {S1 : zS2} (hS : ∀ b j, b ≠ 67 → S1 b j = S b j) (h1 : S1 67 33 = S 67 33) (h2 : S1 67 34 = S 67 34) (h3 : S1 67 1 = S 67 1) (hR : CR n S1) : zCt l Z mX8_undo 7 0 0 [.ref 0] (zA4 μ σ π g) (fun r μ' => r = some (.int (nI n)) ∧ zKp n (rpF S1 n) μ σ π g μ') := by
  refine zCt_of hZ mpX8_undo (Nat.le_of_ble_eq_true rfl) (L := [some (.ref 0)]) rfl (fun τ hY => ?_)
  have hT := hY.1
  have hC1 := hC.pop hS h1 h2 h3
  refine J_aload_n (i := 0) hT dX8_undo_0 rfl rfl ?_
  refine R_getI hT fX8_41 rfl dX8_undo_1 hC.k0 ?_
  refine J_topil (hC.ct) ?_
  refine J_if_gt (tgt := 17) hT dX8_undo_4 (by decide) (fun _ => ?_) (fun q => absurd (nI_lt (a := 0) (b := n + 1) (by omega) (by omega)) q)
  refine J_aload_n (i := 0) hT dX8_undo_17 rfl rfl ?_
  refine J_dup hT dX8_undo_18 rfl ?_
  refine R_getI hT fX8_41 rfl dX8_undo_19 hC.k0 ?_
  refine J_topil (hC.ct) ?_
  refine J_iconst (v := 1) hT dX8_undo_22 rfl ?_
  refine J_isub hT dX8_undo_23 ?_
  refine J_topil ((nI_pred n)) ?_
  refine R_putI hT fX8_41 rfl rfl dX8_undo_24 hC.k0 ?_
  refine J_aload_n (i := 0) hT dX8_undo_27 rfl rfl ?_
  refine J_aload_n (i := 0) hT dX8_undo_28 rfl rfl ?_
  refine R_getP hT fX8_28 rfl dX8_undo_29 hC.k0 hC.p2 ?_
  refine J_callV (ci := 8) hY dX8_undo_32 mfX8_tellAnew miX8_tellAnew msX8_tellAnew kX8_165 ⟨by decide, rfl⟩ hC.k0 (c_X8_tellAnew hZ hO hC1 ta5 (by omega) hR) rfl (by decide) rfl rfl (Nat.le_of_ble_eq_true rfl) (Nat.le_refl _) (Nat.le_refl _) (fun r1 μ1 hq1 => ?_)
  obtain ⟨rfl, σ1, π1, rfl, hM1, hf1, hp1⟩ := hq1
  refine J_aload_n (i := 0) hT dX8_undo_35 rfl rfl ?_
  refine R_getI hT fX8_41 rfl dX8_undo_36 hC.k0 ?_
  refine J_topil (((hf1 0 5 (by unfold zmu; omega)).trans (zu_eq _ _ _ _))) ?_
  exact J_iret hT dX8_undo_39 rfl rfl (⟨rfl, _, σ1, π1, g, rfl, hC1.t5 hf1 hp1 hM1 (rpF_k S1 n), zgr.rf, zcl.tr (fun b hb hb2 j => ⟨zu_ne _ _ _ _ (by omega) j, rfl, rfl⟩) (zcl.tb ta5 hf1 hp1)⟩) (Nat.le_refl _) (Nat.le_refl _)

set_option maxRecDepth 100000 in
set_option maxHeartbeats 4000000 in
theorem x_X8_undo {l : Launch} {Z : zZ} (hZ : zSt l Z) {μ : zMem} {σ : zS2} {π : zP2} {g : zG2} {n : Nat} {S : zS2} (hC : CW n S μ σ π) (hX : zXs Z) (h0 : n = 0) : zCtX l Z mX8_undo 2 1 6 [.ref 0] (zA4 μ σ π g) "java/lang/IllegalStateException" (fun μ' => μ' = zA4 μ σ π g) := by
  refine zCtX_of hZ mpX8_undo (Nat.le_of_ble_eq_true rfl) (L := [some (.ref 0)]) rfl (fun τ hYX => ?_)
  have hY := hYX.1
  have hT := hY.1
  refine J_aload_n (i := 0) hT dX8_undo_0 rfl rfl ?_
  refine R_getI hT fX8_41 rfl dX8_undo_1 hC.k0 ?_
  refine J_topil ((hC.ct.trans (by rw [h0]))) ?_
  refine J_if_gt (tgt := 17) hT dX8_undo_4 (by decide) (fun q => absurd q ((by decide))) (fun _ => ?_)
  exact J_throw_ise hYX hX rfl (tx := "no step is kept") (by decide) dX8_undo_7 dX8_undo_10 dX8_undo_11 dX8_undo_13 dX8_undo_16 rfl (by decide) (rfl) (by first | exact Nat.le_refl _ | decide | omega) (by first | exact Nat.le_refl _ | decide | omega)


