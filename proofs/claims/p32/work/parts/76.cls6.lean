def nsN (S : zS2) (s : Nat) : Int32 := if S 92 s = 3 then 3 else if wantP S s 5 = false then 0 else if S 92 s = 0 then (if staleB S (S 82 s).toNatClampNeg = true then 0 else if S 86 s = 0 then 2 else 1) else if S 92 s = 1 then (if S 94 s ≤ S 67 34 - S 93 s then 2 else 1) else 2
theorem mi.j9 {t : Nat} {μ : zMem} {σ : zS2} {π : zP2} {S : zS2} (h : mi t μ σ π S) {b s : Nat} {v : Int32} (hb : b = 93 ∨ b = 94) (hs : S 92 s ≠ 1) : mi t μ σ π (zu S b s v) := by
  refine h.S (fun x hx k _ => ?_) (fun i _ => ?_) ?_ ?_ (fun k h5 h1 => ?_) (fun c _ => ⟨?_, ?_, ?_, ?_, fun k _ => ?_⟩)
  · obtain ⟨_, _, _, _, _, f6⟩ := lks_f _ hx
    exact zu_ne _ _ _ _ (fun e => f6 (by rcases hb with q | q <;> rw [e, q] <;> decide)) k
  · rw [zu_ne _ _ _ _ (by omega)]
  · rw [zu_ne _ _ _ _ (by omega)]
  · rw [zu_ne _ _ _ _ (by omega)]
  · rw [zu_ne _ _ _ _ (by omega)] at h1
    have hk : k ≠ s := fun e => hs (e ▸ h1)
    rw [zu_n _ _ _ _ (by omega), zu_n _ _ _ _ (by omega)]
    exact ⟨rfl, rfl⟩
  · rw [zu_ne _ _ _ _ (by omega)]
  · rw [zu_ne _ _ _ _ (by omega)]
  · rw [zu_ne _ _ _ _ (by omega)]
  · rw [zu_ne _ _ _ _ (by omega)]
  · rw [zu_ne _ _ _ _ (by omega)]
/-- a service goes on to its next state, both sides -/
theorem mi.enter {t : Nat} (ht : ta t) {μ : zMem} {σ : zS2} {π : zP2} {S : zS2} (h : mi t μ σ π S) (hX : XI S) {s : Nat} (hs : s < 5) :
    rdC S s 92 s = nsN S s ∧ mi t μ (enF σ (t + 25 + s) (nsN S s) (S 67 34)) π (rdC S s) ∧ (nsN S s = S 92 s → rdC S s = S) := by
  have h4 := (hX.2.2.2.2 s hs).2.2.2
  have e1 := h.sst hs
  have e10 := h.srt hs
  have e6 := h.dly hs
  unfold nsN rdC
  by_cases c3 : S 92 s = 3
  · rw [if_pos c3, if_pos c3]
    refine ⟨c3, ?_, fun _ => rfl⟩
    unfold enF
    rw [if_pos (by rw [e1, c3]), ← c3, ← e1, zu_self rfl]
    exact h
  · rw [if_neg c3, if_neg c3]
    unfold changeF
    by_cases cw : wantP S s 5 = false
    · rw [if_pos cw, if_pos cw]
      refine ⟨zu_eq _ _ _ _, ?_, fun q => zu_self q.symm⟩
      have hm := h.ul ht (o := 25) (f := 1) (n := 5) (b := 92) (k := s) (v := 0) (by decide) hs (fun _ q => absurd q (by decide))
      unfold enF
      split
      · exact hm
      · rw [if_neg (by decide), if_neg (by decide)]; exact hm
    · rw [if_neg cw, if_neg cw]
      by_cases c0 : S 92 s = 0
      · rw [if_pos c0]
        by_cases cs : staleB S (S 82 s).toNatClampNeg = true
        · rw [if_pos cs, if_neg (by rw [cs]; simp), if_neg (by rw [c0]; exact fun q => absurd q.1 (by decide))]
          refine ⟨c0, ?_, fun _ => rfl⟩
          unfold enF
          rw [if_pos (by rw [e1, c0]), ← c0, ← e1, zu_self rfl]
          exact h
        · rw [if_neg cs, if_pos ⟨c0, by simpa using cs⟩]
          have n1 : S 92 s ≠ 1 := by rw [c0]; decide
          by_cases cd : S 86 s = 0
          · rw [if_pos cd, if_pos cd]
            unfold runF
            refine ⟨by rw [zu_ne _ _ _ _ (by decide), zu_eq], ?_, fun q => absurd (q.trans c0) (by decide)⟩
            unfold enF
            rw [if_neg (by rw [e1, c0]; decide), if_pos rfl]
            have hm := (h.ul ht (o := 25) (f := 10) (n := 5) (b := 97) (k := s) (v := S 97 s + 1) (by decide) hs (fun q => absurd q (by decide))).ul ht (o := 25) (f := 1) (n := 5) (b := 92) (k := s) (v := 2) (by decide) hs (fun _ q => absurd q (by decide))
            rw [e10]
            have hm2 := (hm.j9 (b := 93) (s := s) (v := S 67 34) (Or.inl rfl) (by rw [zu_eq]; decide)).j9 (b := 94) (s := s) (v := S 86 s) (Or.inr rfl) (by rw [zu_ne _ _ _ _ (by decide), zu_eq]; decide)
            have ef : zu (zu (zu (zu S 97 s (S 97 s + 1)) 92 s 2) 93 s (S 67 34)) 94 s (S 86 s) = zu (zu (zu (zu (zu S 93 s (S 67 34)) 94 s (S 86 s)) 92 s 1) 92 s 2) 97 s ((zu (zu (zu S 93 s (S 67 34)) 94 s (S 86 s)) 92 s 1) 97 s + 1) := by
              have ev : (zu (zu (zu S 93 s (S 67 34)) 94 s (S 86 s)) 92 s 1) 97 s = S 97 s := by rw [zu_ne _ _ _ _ (by decide), zu_ne _ _ _ _ (by decide), zu_ne _ _ _ _ (by decide)]
              rw [ev, zu_zu]
              funext b j
              simp only [zu]
              by_cases b92 : b = 92
              · subst b92; simp
              · by_cases b93 : b = 93
                · subst b93; simp
                · by_cases b94 : b = 94
                  · subst b94; simp
                  · simp [b92, b93, b94]
            rw [← ef]; exact hm2
          · rw [if_neg cd, if_neg cd]
            refine ⟨zu_eq _ _ _ _, ?_, fun q => absurd (q.trans c0) (by decide)⟩
            unfold enF
            rw [if_neg (by rw [e1, c0]; decide), if_neg (by decide), if_pos rfl]
            have hnk : ∀ k, k < 5 → t + 25 + s = t + 25 + k → S 92 k ≠ 1 := fun k hk e => by
              have : k = s := by omega
              subst this
              exact n1
            have hj1 := h.uj ht (a := t + 25 + s) (i := 11) (v := S 67 34) (Or.inr ⟨by omega, by omega, Or.inr ⟨by omega, hnk⟩⟩)
            have hj2 := hj1.uj ht (a := t + 25 + s) (i := 12) (v := S 86 s) (Or.inr ⟨by omega, by omega, Or.inr ⟨by omega, hnk⟩⟩)
            have hm := (hj2.j9 (b := 93) (s := s) (v := S 67 34) (Or.inl rfl) n1).j9 (b := 94) (s := s) (v := S 86 s) (Or.inr rfl) (by rw [zu_ne _ _ _ _ (by decide)]; exact n1)
            have hm2 := hm.ul ht (o := 25) (f := 1) (n := 5) (b := 92) (k := s) (v := 1) (by decide) hs (fun _ _ => ⟨by rw [zu_n _ _ _ _ (by omega), zu_eq, zu_ne _ _ _ _ (by decide), zu_eq], by rw [zu_eq, zu_eq]⟩)
            rw [e6]
            exact hm2
      · rw [if_neg c0, if_neg (by exact fun q => c0 q.1)]
        by_cases c1 : S 92 s = 1
        · rw [if_pos c1]
          by_cases cl : S 94 s ≤ S 67 34 - S 93 s
          · rw [if_pos cl, if_pos ⟨c1, cl⟩]
            unfold runF
            refine ⟨by rw [zu_ne _ _ _ _ (by decide), zu_eq], ?_, fun q => absurd (q.trans c1) (by decide)⟩
            unfold enF
            rw [if_neg (by rw [e1, c1]; decide), if_pos rfl, e10]
            have hm := (h.ul ht (o := 25) (f := 10) (n := 5) (b := 97) (k := s) (v := S 97 s + 1) (by decide) hs (fun q => absurd q (by decide))).ul ht (o := 25) (f := 1) (n := 5) (b := 92) (k := s) (v := 2) (by decide) hs (fun _ q => absurd q (by decide))
            rw [zu_comm S (by decide)] at hm
            exact hm
          · rw [if_neg cl, if_neg (by exact fun q => cl q.2)]
            refine ⟨c1, ?_, fun _ => rfl⟩
            unfold enF
            rw [if_pos (by rw [e1, c1]), ← c1, ← e1, zu_self rfl]
            exact h
        · have c2 : S 92 s = 2 := by
            rcases h4 with q | q | q | q
            · exact absurd q c0
            · exact absurd q c1
            · exact q
            · exact absurd q c3
          rw [if_neg c1, if_neg (by exact fun q => c1 q.1)]
          refine ⟨c2, ?_, fun _ => rfl⟩
          unfold enF
          rw [if_pos (by rw [e1, c2]), ← c2, ← e1, zu_self rfl]
          exact h

set_option maxRecDepth 100000 in
set_option maxHeartbeats 4000000 in
theorem c_X6_nextState {l : Launch} {Z : zZ} (hZ : zSt l Z) {μ : zMem} {σ : zS2} {π : zP2} {g : zG2} {t : Nat} (ht : ta t) {S : zS2} (hM : mo t μ σ π S) (hR : RI S) (hX : XI S) {s : Nat} (hs : s < 5) : zCt l Z mX6_nextState 2 0 0 [.ref t, .ref (t + 25 + s)] (zA4 μ σ π g) (fun r μ' => r = some (.int (nsN S s)) ∧ μ' = zA4 μ σ π g) := by
  refine zCt_of hZ mpX6_nextState (Nat.le_of_ble_eq_true rfl) (L := [some (.ref t), some (.ref (t + 25 + s))]) rfl (fun τ hY => ?_)
  have hT := hY.1
  have hB := hM.1.tb
  have hc := (hR.2.2.1 s hs).1
  have h4 := (hX.2.2.2.2 s hs).2.2.2
  refine J_aload_n (i := 1) hT dX6_nextState_0 rfl rfl ?_
  refine R_getI hT fX6_159 rfl dX6_nextState_1 (hB.ks hs) ?_
  refine J_topil (hM.1.sst hs) ?_
  refine J_iconst (v := 3) hT dX6_nextState_4 rfl ?_
  refine J_icmp_ne (tgt := 10) hT dX6_nextState_5 (by decide) (fun q5 => ?_) (fun q5 => ?_)
  · refine J_aload_n (i := 0) hT dX6_nextState_10 rfl rfl ?_
    refine J_aload_n (i := 1) hT dX6_nextState_11 rfl rfl ?_
    refine R_callV1 (ci := 6) hY dX6_nextState_12 mfX6_isWanted miX6_isWanted msX6_isWanted kX6_210 ⟨by decide, rfl⟩ hB.k (c_X6_isWanted hZ ht hM hs hc) rfl (by decide) rfl rfl (Nat.le_of_ble_eq_true rfl) (Nat.le_refl _) (Nat.le_refl _) ?_
    refine J_if_ne (tgt := 20) hT dX6_nextState_15 (by decide) (fun q15 => ?_) (fun q15 => ?_)
    · refine J_aload_n (i := 1) hT dX6_nextState_20 rfl rfl ?_
      refine R_getI hT fX6_159 rfl dX6_nextState_21 (hB.ks hs) ?_
      refine J_topil (hM.1.sst hs) ?_
      have hw := zbi_ne.mp q15
      obtain ⟨c, hc12, hcc⟩ := wantC hc hw
      have hfs : bt (fsN S) c = staleB S c := by rw [fsN_bt S (by omega)]; simp [hc12, show c < 17 by omega]
      refine J_if_ne (tgt := 56) hT dX6_nextState_24 (by decide) (fun q24 => ?_) (fun q24 => ?_)
      · refine J_aload_n (i := 1) hT dX6_nextState_56 rfl rfl ?_
        refine R_getI hT fX6_159 rfl dX6_nextState_57 (hB.ks hs) ?_
        refine J_topil (hM.1.sst hs) ?_
        refine J_iconst (v := 1) hT dX6_nextState_60 rfl ?_
        refine J_icmp_ne (tgt := 79) hT dX6_nextState_61 (by decide) (fun q61 => ?_) (fun q61 => ?_)
        · refine J_iconst (v := 2) hT dX6_nextState_79 rfl ?_
          exact J_iret hT dX6_nextState_80 rfl rfl (⟨by
            unfold nsN
            rw [if_neg q5, if_neg (by rw [hw]; decide), if_neg q24]
            first
              | (rw [if_neg q61]; done)
              | (have q := zbi_0.mp q72; rw [if_pos q61]; rw [hM.1.sst hs, q61, (hM.1.st s hs q61).1, (hM.1.st s hs q61).2] at q; rw [if_neg (by simpa using q)]; done)
              | (have q := zbi_ne.mp q72; rw [if_pos q61]; rw [hM.1.sst hs, q61, (hM.1.st s hs q61).1, (hM.1.st s hs q61).2] at q; rw [if_pos (by simpa using q)]; done), rfl⟩) (Nat.le_refl _) (Nat.le_refl _)
        · refine J_aload_n (i := 1) hT dX6_nextState_64 rfl rfl ?_
          refine J_aload_n (i := 0) hT dX6_nextState_65 rfl rfl ?_
          refine R_getI hT fX6_49 rfl dX6_nextState_66 hB.k ?_
          refine J_topil (hM.1.w) ?_
          refine R_callV1 (ci := 4) hY dX6_nextState_69 mfX4_isDue miX4_isDue msX4_isDue kX6_120 ⟨by decide, rfl⟩ (hB.ks hs) (c_X4_isDue hZ (hB.ks hs)) rfl (by decide) rfl rfl (Nat.le_of_ble_eq_true rfl) (Nat.le_refl _) (Nat.le_refl _) ?_
          refine J_if_ne (tgt := 79) hT dX6_nextState_72 (by decide) (fun q72 => ?_) (fun q72 => ?_)
          · refine J_iconst (v := 2) hT dX6_nextState_79 rfl ?_
            exact J_iret hT dX6_nextState_80 rfl rfl (⟨by
              unfold nsN
              rw [if_neg q5, if_neg (by rw [hw]; decide), if_neg q24]
              first
                | (rw [if_neg q61]; done)
                | (have q := zbi_0.mp q72; rw [if_pos q61]; rw [hM.1.sst hs, q61, (hM.1.st s hs q61).1, (hM.1.st s hs q61).2] at q; rw [if_neg (by simpa using q)]; done)
                | (have q := zbi_ne.mp q72; rw [if_pos q61]; rw [hM.1.sst hs, q61, (hM.1.st s hs q61).1, (hM.1.st s hs q61).2] at q; rw [if_pos (by simpa using q)]; done), rfl⟩) (Nat.le_refl _) (Nat.le_refl _)
          · refine J_iconst (v := 1) hT dX6_nextState_75 rfl ?_
            refine J_goto (tgt := 80) hT dX6_nextState_76 (by decide) ?_
            exact J_iret hT dX6_nextState_80 rfl rfl (⟨by
              unfold nsN
              rw [if_neg q5, if_neg (by rw [hw]; decide), if_neg q24]
              first
                | (rw [if_neg q61]; done)
                | (have q := zbi_0.mp q72; rw [if_pos q61]; rw [hM.1.sst hs, q61, (hM.1.st s hs q61).1, (hM.1.st s hs q61).2] at q; rw [if_neg (by simpa using q)]; done)
                | (have q := zbi_ne.mp q72; rw [if_pos q61]; rw [hM.1.sst hs, q61, (hM.1.st s hs q61).1, (hM.1.st s hs q61).2] at q; rw [if_pos (by simpa using q)]; done), rfl⟩) (Nat.le_refl _) (Nat.le_refl _)
      · refine J_aload_n (i := 0) hT dX6_nextState_27 rfl rfl ?_
        refine R_callV1 (ci := 6) hY dX6_nextState_28 mfX6_findStale miX6_findStale msX6_findStale kX6_214 ⟨by decide, rfl⟩ hB.k (c_X6_findStale hZ ht hM hR.2.1 (fun r hr => (hX.2.2.2.1 r hr).2)) rfl (by decide) rfl rfl (Nat.le_of_ble_eq_true rfl) (Nat.le_refl _) (Nat.le_refl _) ?_
        refine J_aload_n (i := 1) hT dX6_nextState_31 rfl rfl ?_
        refine R_getI hT fX6_138 rfl dX6_nextState_32 (hB.ks hs) ?_
        refine J_topil ((hM.1.ctl hs).trans hcc) ?_
        refine R_callS1 hY dX6_nextState_35 mfX8_has mtX8_has kX6_184 (c_X8_has hZ (show c < 32 by omega)) rfl (by decide) rfl rfl (Nat.le_of_ble_eq_true rfl) (Nat.le_refl _) (Nat.le_refl _) ?_
        refine J_if_eq (tgt := 43) hT dX6_nextState_38 (by decide) (fun q38 => ?_) (fun q38 => ?_)
        · refine J_aload_n (i := 1) hT dX6_nextState_43 rfl rfl ?_
          refine R_getI hT fX6_150 rfl dX6_nextState_44 (hB.ks hs) ?_
          refine J_topil (hM.1.dly hs) ?_
          refine J_if_ne (tgt := 54) hT dX6_nextState_47 (by decide) (fun q47 => ?_) (fun q47 => ?_)
          · refine J_iconst (v := 1) hT dX6_nextState_54 rfl ?_
            exact J_iret hT dX6_nextState_55 rfl rfl (⟨by unfold nsN; rw [if_neg q5, if_neg (by rw [hw]; decide), if_pos q24, hcc, nI_tn hc12, if_neg (by rw [← hfs, zbi_0.mp q38]; decide)]; first | rw [if_pos q47] | rw [if_neg q47], rfl⟩) (Nat.le_refl _) (Nat.le_refl _)
          · refine J_iconst (v := 2) hT dX6_nextState_50 rfl ?_
            refine J_goto (tgt := 55) hT dX6_nextState_51 (by decide) ?_
            exact J_iret hT dX6_nextState_55 rfl rfl (⟨by unfold nsN; rw [if_neg q5, if_neg (by rw [hw]; decide), if_pos q24, hcc, nI_tn hc12, if_neg (by rw [← hfs, zbi_0.mp q38]; decide)]; first | rw [if_pos q47] | rw [if_neg q47], rfl⟩) (Nat.le_refl _) (Nat.le_refl _)
        · refine J_iconst (v := 0) hT dX6_nextState_41 rfl ?_
          exact J_iret hT dX6_nextState_42 rfl rfl (⟨by unfold nsN; rw [if_neg q5, if_neg (by rw [hw]; decide), if_pos q24, hcc, nI_tn hc12, if_pos (by rw [← hfs]; exact zbi_ne.mp q38)], rfl⟩) (Nat.le_refl _) (Nat.le_refl _)
    · refine J_iconst (v := 0) hT dX6_nextState_18 rfl ?_
      exact J_iret hT dX6_nextState_19 rfl rfl (⟨by unfold nsN; rw [if_neg q5, if_pos (zbi_0.mp q15)], rfl⟩) (Nat.le_refl _) (Nat.le_refl _)
  · refine J_iconst (v := 3) hT dX6_nextState_8 rfl ?_
    exact J_iret hT dX6_nextState_9 rfl rfl (⟨by unfold nsN; rw [if_pos q5], rfl⟩) (Nat.le_refl _) (Nat.le_refl _)


