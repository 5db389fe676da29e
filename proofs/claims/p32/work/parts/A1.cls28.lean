theorem mx23 : ∀ E, E < 2001 → (if (0 : Int32) < nI E - 23 then nI E - 23 else 0) = nI (E - 23) := by decide +kernel
theorem trL_kq {S : zS2} {E n : Nat} (hK : KI S) (hx : ∀ k, k < n → stX S k) (hE2 : E ≤ 2000) : ∀ d, E - 23 + d ≤ E → KI (trL S E n d) ∧ QS (trL S E n d) := by
  intro d
  induction d with
  | zero =>
    intro _
    have := (hK.at67 34 (nI (E - 23))).clear
    exact ⟨this.set 6, QS.set this.1 this.2.1⟩
  | succ d ih =>
    intro hd
    obtain ⟨a, b⟩ := ih (by omega)
    have hr := raF_kq a b (n := n) (fun k hk => stX_zkf (trL_k S E n d) (hx k hk)) (by rw [trL_now]; exact nI_ge0 (by omega)) n (Nat.le_refl n)
    exact ⟨hr.1.now.set 6, QS.set hr.1.now.1 hr.1.now.2.1⟩
def KS (n : Nat) (S : zS2) (w a b c : Int32) : Prop := stepV (kpS S n w a b c) n ∧ stX (kpS S n w a b c) n ∧ (kpS S n w a b c 98 n ≠ 10 → RI (chgF (kpS S n w a b c) n)) ∧ KI (kpS S n w a b c) ∧ QS (kpS S n w a b c) ∧ ∃ E, kpS S n w a b c 67 34 = nI E ∧ E ≤ 2000 ∧ (kpS S n w a b c 98 n = 10 → E + stC (kpS S n w a b c) n ≤ 2000)
theorem CV.ks {n : Nat} {S : zS2} (h : CV n S) {w a b c : Int32} (hk : stepV (kpS S n w a b c) n ∧ (kpS S n w a b c 98 n ≠ 10 → RI (chgF (kpS S n w a b c) n))) (hx : stX (kpS S n w a b c) n) (h10 : kpS S n w a b c 98 n = 10 → ∀ E, S 67 34 = nI E → E ≤ 2000 → E + stC (kpS S n w a b c) n ≤ 2000) : KS n S w a b c := by
  obtain ⟨a1, a2⟩ := h.kq
  have q := kpS_q S n w a b c
  obtain ⟨E, e1, e2⟩ := h.now
  exact ⟨hk.1, hx, hk.2, KI_zq a1 q, QS_zq a1 a2 q, E, q.2.2.1.trans e2, e1, fun z => h10 z E e2 e1⟩

set_option maxRecDepth 100000 in
set_option maxHeartbeats 4000000 in
theorem c_X8_trial {l : Launch} {Z : zZ} (hZ : zSt l Z) (hO : zOps Z) {μ : zMem} {σ : zS2} {π : zP2} {g : zG2} {n : Nat} {S : zS2} (hC : CW n S μ σ π) (hV : CV n S) {E : Nat} (hE : S 67 34 = nI E) (hE2 : E ≤ 2000) {c : Nat} (hc : c < 5) : zCt l Z mX8_trial 7 0 0 [.ref 0, .int (nI c)] (zA4 μ σ π g) (fun r μ' => r = some (.int (trF S E n 97 c)) ∧ zKp n S μ σ π g μ') := by
  refine zCt_of hZ mpX8_trial (Nat.le_of_ble_eq_true rfl) (L := [some (.ref 0), some (.int (nI c)), none]) rfl (fun τ hY => ?_)
  have hT := hY.1
  obtain ⟨hK, hQ⟩ := hV.kq
  obtain ⟨hn40, _, hv, _⟩ := hV.1
  have hx := hV.2.2
  have hB := hC.m.1.tb
  have loop : ∀ d i, i + d = (E - (E - 23)) → ∀ σ1 π1, mo 35 μ σ1 π1 (trL S E n i) → zfT 35 σ σ1 → zfP 35 π π1 → zJ τ (zFn τ (fun r μ' => r = some (.int (trF S E n 97 c)) ∧ zKp n S μ σ π g μ') 0 0) 39 [some (.ref 0), some (.int (nI c)), some (.int (nI i))] [] (zA4 μ σ1 π1 g) 0 0 := by
    intro d
    induction d with
    | zero =>
      intro i hi
      have hie : i = E - (E - 23) := by omega
      intro σ1 π1 hM1 hf1 hp1
      have hC1 := hC.t35s hf1 hp1 hM1
      have hz := trL_k S E n i
      have hKQ := trL_kq hK hx hE2 i (by omega)
      have w5 : σ1 5 7 = nI E := by rw [hf1 5 7 (by unfold zmu; omega)]; exact hC.m.1.w.trans hE
      have w35 : σ1 35 7 = nI (E - 23 + i) := hM1.1.w.trans (trL_now E n i)
      refine J_iload_n (i := 2) hT dX8_trial_39 rfl rfl ?_
      refine J_bipush (v := 24) hT dX8_trial_40 rfl ?_
      refine J_icmp_ge (tgt := 88) hT dX8_trial_42 (by decide) (fun q => absurd q (Int32.not_le.mpr (nI_lt (a := i) (b := 24) (by omega) (by decide)))) (fun _ => ?_)
      refine J_aload_n (i := 0) hT dX8_trial_45 rfl rfl ?_
      refine R_getP hT fX8_32 rfl dX8_trial_46 hC.k0 ((hp1 0 3 (by unfold zmp; omega)).trans hC.p3) ?_
      refine R_getI hT fX8_158 rfl dX8_trial_49 hM1.1.tb.k ?_
      refine J_topil (w35) ?_
      refine J_aload_n (i := 0) hT dX8_trial_52 rfl rfl ?_
      refine R_getP hT fX8_28 rfl dX8_trial_53 hC.k0 ((hp1 0 2 (by unfold zmp; omega)).trans hC.p2) ?_
      refine R_getI hT fX8_158 rfl dX8_trial_56 hC.m.1.tb.k ?_
      refine J_topil (w5) ?_
      refine J_icmp_ge (tgt := 88) hT dX8_trial_59 (by decide) (fun _ => ?_) (fun q => absurd (nI_le (a := E) (b := E - 23 + i) (by omega) (by omega)) q)
      refine J_aload_n (i := 0) hT dX8_trial_88 rfl rfl ?_
      refine J_aload_n (i := 0) hT dX8_trial_89 rfl rfl ?_
      refine R_getP hT fX8_32 rfl dX8_trial_90 hC.k0 ((hp1 0 3 (by unfold zmp; omega)).trans hC.p3) ?_
      refine J_callV (ci := 8) hY dX8_trial_93 mfX8_tellReadingsOfTick miX8_tellReadingsOfTick msX8_tellReadingsOfTick kX8_211 ⟨by decide, rfl⟩ hC.k0 (c_X8_tellReadingsOfTick hZ hO hC1 hn40 hM1 hz (fun k hk => stepV_zkf hz (hv k hk)) (fun k hk => stX_zkf hz (hx k hk)) hKQ.1 hKQ.2 (trL_now E n i) (by omega)) rfl (by decide) rfl rfl (Nat.le_of_ble_eq_true rfl) (Nat.le_refl _) (Nat.le_refl _) (fun r1 μ1 hq1 => ?_)
      obtain ⟨rfl, σ2, π2, rfl, hM2, hf2, hp2⟩ := hq1
      refine J_aload_n (i := 0) hT dX8_trial_96 rfl rfl ?_
      refine R_getP hT fX8_32 rfl dX8_trial_97 hC.k0 ((hp2 0 3 (by unfold zmp; omega)).trans ((hp1 0 3 (by unfold zmp; omega)).trans hC.p3)) ?_
      refine R_getP hT fX8_147 rfl dX8_trial_100 hM2.1.tb.k hM2.1.tb.p4 ?_
      refine J_iload_n (i := 1) hT dX8_trial_103 rfl rfl ?_
      refine R_aald1 hT dX8_trial_104 hM2.1.tb.k6 (by decide) hM2.1.tb.l6 (by first | exact ⟨rfl, by decide⟩ | exact zix_nI (by omega) (by decide) | assumption) (hM2.1.tb.ps hc) ?_
      refine R_getI hT fX8_195 rfl dX8_trial_105 (hM2.1.tb.ks hc) ?_
      refine J_topil ((hM2.1.srt hc)) ?_
      exact J_iret hT dX8_trial_108 rfl rfl (⟨by rw [hie]; rfl, _, σ2, π2, g, rfl, hC.t35s (hf1.tr hf2) (hp1.tr hp2) hM2, zgr.rf, zcl.tb ta35 (hf1.tr hf2) (hp1.tr hp2)⟩) (Nat.le_refl _) (Nat.le_refl _)
    | succ d ih =>
      intro i hi
      intro σ1 π1 hM1 hf1 hp1
      have hC1 := hC.t35s hf1 hp1 hM1
      have hz := trL_k S E n i
      have hKQ := trL_kq hK hx hE2 i (by omega)
      have w5 : σ1 5 7 = nI E := by rw [hf1 5 7 (by unfold zmu; omega)]; exact hC.m.1.w.trans hE
      have w35 : σ1 35 7 = nI (E - 23 + i) := hM1.1.w.trans (trL_now E n i)
      have hnx : trL S E n (i + 1) = (setF 6 (nowF (raF (trL S E n i) n))).1 := rfl
      refine J_iload_n (i := 2) hT dX8_trial_39 rfl rfl ?_
      refine J_bipush (v := 24) hT dX8_trial_40 rfl ?_
      refine J_icmp_ge (tgt := 88) hT dX8_trial_42 (by decide) (fun q => absurd q (Int32.not_le.mpr (nI_lt (a := i) (b := 24) (by omega) (by decide)))) (fun _ => ?_)
      refine J_aload_n (i := 0) hT dX8_trial_45 rfl rfl ?_
      refine R_getP hT fX8_32 rfl dX8_trial_46 hC.k0 ((hp1 0 3 (by unfold zmp; omega)).trans hC.p3) ?_
      refine R_getI hT fX8_158 rfl dX8_trial_49 hM1.1.tb.k ?_
      refine J_topil (w35) ?_
      refine J_aload_n (i := 0) hT dX8_trial_52 rfl rfl ?_
      refine R_getP hT fX8_28 rfl dX8_trial_53 hC.k0 ((hp1 0 2 (by unfold zmp; omega)).trans hC.p2) ?_
      refine R_getI hT fX8_158 rfl dX8_trial_56 hC.m.1.tb.k ?_
      refine J_topil (w5) ?_
      refine J_icmp_ge (tgt := 88) hT dX8_trial_59 (by decide) (fun q => absurd q (Int32.not_le.mpr (nI_lt (a := E - 23 + i) (b := E) (by omega) (by omega)))) (fun _ => ?_)
      refine J_aload_n (i := 0) hT dX8_trial_62 rfl rfl ?_
      refine J_aload_n (i := 0) hT dX8_trial_63 rfl rfl ?_
      refine R_getP hT fX8_32 rfl dX8_trial_64 hC.k0 ((hp1 0 3 (by unfold zmp; omega)).trans hC.p3) ?_
      refine J_callV (ci := 8) hY dX8_trial_67 mfX8_tellReadingsOfTick miX8_tellReadingsOfTick msX8_tellReadingsOfTick kX8_211 ⟨by decide, rfl⟩ hC.k0 (c_X8_tellReadingsOfTick hZ hO hC1 hn40 hM1 hz (fun k hk => stepV_zkf hz (hv k hk)) (fun k hk => stX_zkf hz (hx k hk)) hKQ.1 hKQ.2 (trL_now E n i) (by omega)) rfl (by decide) rfl rfl (Nat.le_of_ble_eq_true rfl) (Nat.le_refl _) (Nat.le_refl _) (fun r1 μ1 hq1 => ?_)
      obtain ⟨rfl, σ2, π2, rfl, hM2, hf2, hp2⟩ := hq1
      have hr2 := raF_kq hKQ.1 hKQ.2 (n := n) (fun k hk => stX_zkf hz (hx k hk)) (by rw [trL_now]; exact nI_ge0 (by omega)) n (Nat.le_refl n)
      have h66 : σ2 66 0 = 10 ∧ σ2 66 1 = nI 1 := by
        rw [hf2 66 0 (by unfold zmu; omega), hf2 66 1 (by unfold zmu; omega), hf1 66 0 (by unfold zmu; omega), hf1 66 1 (by unfold zmu; omega)]
        exact hC.one
      refine J_aload_n (i := 0) hT dX8_trial_70 rfl rfl ?_
      refine R_getP hT fX8_32 rfl dX8_trial_71 hC.k0 ((hp2 0 3 (by unfold zmp; omega)).trans ((hp1 0 3 (by unfold zmp; omega)).trans hC.p3)) ?_
      refine J_aload_n (i := 0) hT dX8_trial_74 rfl rfl ?_
      refine R_getP hT fX8_48 rfl dX8_trial_75 hC.k0 ((hp2 0 6 (by unfold zmp; omega)).trans ((hp1 0 6 (by unfold zmp; omega)).trans hC.p6)) ?_
      refine J_callV (ci := 6) hY dX8_trial_78 mfX6_tell miX6_tell msX6_tell kX8_214 ⟨by decide, rfl⟩ hM2.1.tb.k (c_X6_tellT hZ hO ta35 hM2 hr2.1 hr2.2 hC.k66 (Or.inl rfl) h66.1 h66.2 (n := 1) (E := E - 23 + i) (by rw [raF_now]; exact trL_now E n i) (by omega)) rfl (by decide) rfl rfl (Nat.le_of_ble_eq_true rfl) (Nat.le_refl _) (Nat.le_refl _) (fun r2 μ2 hq2 => ?_)
      obtain ⟨rfl, σ3, rfl, hM3, hf3⟩ := hq2
      show zJ _ _ _ _ (.int _ :: _) _ _ _
      refine J_pop hT dX8_trial_81 rfl ?_
      refine S_iinc2 hT dX8_trial_82 (nI_inc _) rfl ?_
      refine J_goto (tgt := 39) hT dX8_trial_85 (by decide) ?_
      exact ih (i + 1) (by omega) σ3 π2 (by rw [hnx]; exact hM3) ((hf1.tr hf2).tr hf3) (hp1.tr hp2)
  refine J_iload_n (i := 1) hT dX8_trial_0 rfl rfl ?_
  refine R_callS0 hY dX8_trial_1 mfX8_checkService mtX8_checkService kX8_139 (c_X8_checkService hZ hc) rfl (by decide) rfl rfl (Nat.le_of_ble_eq_true rfl) (Nat.le_refl _) (Nat.le_refl _) ?_
  refine J_aload_n (i := 0) hT dX8_trial_4 rfl rfl ?_
  refine R_getP hT fX8_32 rfl dX8_trial_5 hC.k0 hC.p3 ?_
  refine J_aload_n (i := 0) hT dX8_trial_8 rfl rfl ?_
  refine R_getP hT fX8_28 rfl dX8_trial_9 hC.k0 hC.p2 ?_
  refine J_iconst (v := 0) hT dX8_trial_12 rfl ?_
  refine J_aload_n (i := 0) hT dX8_trial_13 rfl rfl ?_
  refine R_getP hT fX8_28 rfl dX8_trial_14 hC.k0 hC.p2 ?_
  refine R_getI hT fX8_158 rfl dX8_trial_17 hB.k ?_
  refine J_topil ((hC.m.1.w.trans hE)) ?_
  refine J_bipush (v := 23) hT dX8_trial_20 rfl ?_
  refine J_isub hT dX8_trial_22 ?_
  refine J_mmax hT dX8_trial_23 kX8_198 rfl (by decide) (Nat.le_refl _) (Nat.le_refl _) ?_
  refine J_topil (mx23 E (by omega)) ?_
  refine J_callV (ci := 6) hY dX8_trial_26 mfX6_takeSettings miX6_takeSettings msX6_takeSettings kX8_204 ⟨by decide, rfl⟩ hC.t35.1.k (c_X6_takeSettings hZ ta35 ta5 (by decide) hC.t35.1 hC.t35.2.1 hC.t35.2.2 hC.m hK) rfl (by decide) rfl rfl (Nat.le_of_ble_eq_true rfl) (Nat.le_refl _) (Nat.le_refl _) (fun r1 μ1 hq1 => ?_)
  obtain ⟨rfl, σ0, π0, rfl, hM0, hf0, hp0⟩ := hq1
  have hK0 := (hK.at67 34 (nI (E - 23))).clear
  refine J_aload_n (i := 0) hT dX8_trial_29 rfl rfl ?_
  refine R_getP hT fX8_32 rfl dX8_trial_30 hC.k0 ((hp0 0 3 (by unfold zmp; omega)).trans hC.p3) ?_
  refine J_callV (ci := 6) hY dX8_trial_33 mfX6_settle miX6_settle msX6_settle kX8_208 ⟨by decide, rfl⟩ hM0.1.tb.k (c_X6_settle hZ hO ta35 hM0 hK0.1 hK0.2.1) rfl (by decide) rfl rfl (Nat.le_of_ble_eq_true rfl) (Nat.le_refl _) (Nat.le_refl _) (fun r2 μ2 hq2 => ?_)
  obtain ⟨rfl, σ3, rfl, hM3, hf3⟩ := hq2
  show zJ _ _ _ _ (.int _ :: _) _ _ _
  refine J_pop hT dX8_trial_36 rfl ?_
  refine J_iconst (v := 0) hT dX8_trial_37 rfl ?_
  refine S_istore2 hT dX8_trial_38 rfl rfl ?_
  exact loop (E - (E - 23)) 0 (by omega) σ3 π0 hM3 (hf0.tr hf3) hp0


