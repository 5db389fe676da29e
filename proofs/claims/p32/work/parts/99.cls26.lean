/-- what lies from the reference on to the law's own row stays -/
def zcl (σ σ' : zS2) (π π' : zP2) (g g' : zG2) : Prop := ∀ b, 67 ≤ b → b < 70 → ∀ j, σ' b j = σ b j ∧ π' b j = π b j ∧ g' b j = g b j
theorem zcl.rf {σ : zS2} {π : zP2} {g : zG2} : zcl σ σ π π g g := fun _ _ _ _ => ⟨rfl, rfl, rfl⟩
theorem zcl.tr {σ σ1 σ2 : zS2} {π π1 π2 : zP2} {g g1 g2 : zG2} (h : zcl σ σ1 π π1 g g1) (h2 : zcl σ1 σ2 π1 π2 g1 g2) : zcl σ σ2 π π2 g g2 := fun b h1 h3 j => ⟨((h2 b h1 h3 j).1).trans (h b h1 h3 j).1, ((h2 b h1 h3 j).2.1).trans (h b h1 h3 j).2.1, ((h2 b h1 h3 j).2.2).trans (h b h1 h3 j).2.2⟩
theorem zcl.tb {t : Nat} (ht : ta t) {σ σ' : zS2} {π π' : zP2} {g : zG2} (h1 : zfT t σ σ') (h2 : zfP t π π') : zcl σ σ' π π' g g := fun b hb hb2 j => by
  unfold ta at ht
  exact ⟨h1 b j (by unfold zmu; omega), h2 b j (by unfold zmp; omega), rfl⟩
/-- what a step of the class leaves -/
def zKp (n : Nat) (S : zS2) (μ : zMem) (σ : zS2) (π : zP2) (g : zG2) (μx : zMem) : Prop := ∃ μ' σ' π' g', μx = zA4 μ' σ' π' g' ∧ CW n S μ' σ' π' ∧ zgr μ μ' ∧ zcl σ σ' π π' g g'
theorem CW.push {n : Nat} {S : zS2} {μ : zMem} {σ : zS2} {π : zP2} (h : CW n S μ σ π) {sp : Nat} (hsp : zSp μ σ π sp S n) (hi : 70 ≤ sp) : CW (n + 1) S μ (zu σ 0 5 (nI (n + 1))) (zup π 65 n (some sp)) := by
  have zs : ∀ b j, b ≠ 0 → zu σ 0 5 (nI (n + 1)) b j = σ b j := fun b j hb => zu_ne _ _ _ _ hb j
  have zp : ∀ b j, b ≠ 65 → zup π 65 n (some sp) b j = π b j := fun b j hb => zup_n _ _ _ _ (fun e => hb e.1)
  obtain ⟨⟨a1, a2, a3, a4, a5, a6, ⟨a7, a8, a9⟩, ⟨b1, b2⟩, ⟨b3, b4, b5, b6⟩, b7, b8, b9, c1, c2⟩, ⟨d1, d2, d3⟩, d4, d5, d6, d7, d8, d9, d0⟩ := h
  refine ⟨⟨a1, a2, by rw [zp _ _ (by decide)]; exact a3, by rw [zp _ _ (by decide)]; exact a4, by rw [zp _ _ (by decide)]; exact a5, by rw [zp _ _ (by decide)]; exact a6, ⟨by rw [zp _ _ (by decide)]; exact a7, a8, a9⟩, ⟨by rw [zp _ _ (by decide)]; exact b1, b2⟩, ⟨b3, by rw [zp _ _ (by decide)]; exact b4, b5, b6⟩, b7, by rw [zp _ _ (by decide)]; exact b8, by rw [zp _ _ (by decide)]; exact b9, c1, c2⟩, ⟨d1.mv zgr.rf (fun b j h1 h2 _ => zp b j (by omega)), ⟨fun i hi => by rw [zs _ _ (by omega)]; exact d2.1 i hi, fun i hi => by rw [zs _ _ (by omega)]; exact d2.2 i hi⟩, d3.mv (by omega) zgr.rf (fun b hb j => zs b j (by omega)) (fun b hb j => zp b j (by omega))⟩, d4.mv (by omega) zgr.rf (fun b hb j => zs b j (by omega)) (fun b hb j => zp b j (by omega)), ⟨d5.1.fr zgr.rf (fun b hb j => zs b j (by unfold Im at hb; omega)) (fun b hb j => zp b j (by unfold Im at hb; omega)), d5.2.mv (fun j => zp _ _ (by decide)) (fun _ _ => rfl)⟩, zu_eq _ _ _ _, fun k hk => ?_, ⟨by rw [zs _ _ (by decide)]; exact d8.1, by rw [zs _ _ (by decide)]; exact d8.2⟩, by rw [zs _ _ (by decide)]; exact d9, fun i hi => by rw [zs _ _ (by decide)]; exact d0 i hi⟩
  have hmv : ∀ q, ∀ k', zSp μ σ π q S k' → zSp μ (zu σ 0 5 (nI (n + 1))) (zup π 65 n (some sp)) q S k' := fun q k' h => h.mv zgr.rf (fun b hb _ j => zs b j (by unfold Io Im at hb; omega)) (fun b hb _ j => zp b j (by unfold Io Im at hb; omega)) (fun _ _ => rfl) (fun _ _ => rfl)
  by_cases e : k = n
  · subst e; exact ⟨sp, zup_eq _ _ _ _, hmv _ _ hsp⟩
  · obtain ⟨q, e1, e2⟩ := d7 k (by omega)
    exact ⟨q, by rw [zup_n _ _ _ _ (by omega)]; exact e1, hmv _ _ e2⟩
theorem kpS_at (S : zS2) (n : Nat) (w a b c : Int32) : kpS S n w a b c 102 n = S 67 34 := by simp [kpS, zu]
theorem kpS_104 (S : zS2) (n : Nat) (w a b c : Int32) : (∀ k, kpS S n w a b c 104 k = S 104 k) ∧ ∀ k, kpS S n w a b c 103 k = S 103 k := ⟨fun k => kp_ne S n w a b c (by decide) k, fun k => kp_ne S n w a b c (by decide) k⟩

set_option maxRecDepth 100000 in
set_option maxHeartbeats 4000000 in
theorem c_X8_keep {l : Launch} {Z : zZ} (hZ : zSt l Z) (hO : zOps Z) {μ : zMem} {σ : zS2} {π : zP2} {g : zG2} {n : Nat} {S : zS2} (hC : CW n S μ σ π) (hn : n < 40) {w a b c : Int32} (hw0 : w ≠ 0) (hv : stepV (kpS S n w a b c) n) (hx : stX (kpS S n w a b c) n) (hR : kpS S n w a b c 98 n ≠ 10 → RI (chgF (kpS S n w a b c) n)) (hK : KI (kpS S n w a b c)) (hQ : QS (kpS S n w a b c)) (hTm : ∃ E, kpS S n w a b c 67 34 = nI E ∧ E ≤ 2000 ∧ (kpS S n w a b c 98 n = 10 → E + stC (kpS S n w a b c) n ≤ 2000)) : zCt l Z mX8_keep 6 1 6 [.ref 0, .int w, .int a, .int b, .int c, .null] (zA4 μ σ π g) (fun r μ' => r = some (.int (nI (doF (kpS S n w a b c) n).2)) ∧ zKp (n + 1) (doF (kpS S n w a b c) n).1 μ σ π g μ') := by
  refine zCt_of hZ mpX8_keep (Nat.le_of_ble_eq_true rfl) (L := [some (.ref 0), some (.int w), some (.int a), some (.int b), some (.int c), some (.null), none]) rfl (fun τ hY => ?_)
  have hT := hY.1
  have hM := hC.m
  have hB := hM.1.tb
  have hn107 := hC.nn
  have kK : ∀ b, b ≠ zN μ → zK (zal μ (5 + 8) 0) b = zK μ b := fun b hb => by rw [zK_al, if_neg hb]
  have kL : ∀ b, b ≠ zN μ → zL (zal μ (5 + 8) 0) b = zL μ b := fun b hb => by rw [zL_al, if_neg hb]
  have kN : zK (zal μ (5 + 8) 0) (zN μ) = 5 + 8 := by rw [zK_al, if_pos rfl]
  obtain ⟨S1, hS1⟩ : ∃ S1, S1 = kpS S n w a b c := ⟨_, rfl⟩
  obtain ⟨g1, hg1⟩ : ∃ g1, g1 = ng2 μ g := ⟨_, rfl⟩
  rw [← hS1] at hv hx hR hTm hK hQ ⊢
  have e98 : S1 98 n = w := by rw [hS1]; exact (kp_at S n w a b c).1
  have e99 : S1 99 n = a := by rw [hS1]; exact (kp_at S n w a b c).2.1
  have e100 : S1 100 n = b := by rw [hS1]; exact (kp_at S n w a b c).2.2.1
  have e101 : S1 101 n = c := by rw [hS1]; exact (kp_at S n w a b c).2.2.2
  have e102 : S1 102 n = S 67 34 := by rw [hS1]; exact kpS_at S n w a b c
  have hq : zq n S S1 := by rw [hS1]; exact kpS_q S n w a b c
  obtain ⟨σs, hσs⟩ : ∃ σs, σs = zu (zu (zu (zu (zu (nσ μ σ) (zN μ) 0 w) (zN μ) 1 a) (zN μ) 2 b) (zN μ) 3 c) (zN μ) 5 (S 67 34) := ⟨_, rfl⟩
  obtain ⟨πs, hπs⟩ : ∃ πs, πs = zup (nπ μ π) (zN μ) 4 (none) := ⟨_, rfl⟩
  have es : ∀ b, b ≠ zN μ → ∀ j, σs b j = σ b j := fun b hb j => by rw [hσs, zu_ne _ _ _ _ hb, zu_ne _ _ _ _ hb, zu_ne _ _ _ _ hb, zu_ne _ _ _ _ hb, zu_ne _ _ _ _ hb]; unfold nσ; rw [if_neg hb]
  have ep : ∀ b, b ≠ zN μ → ∀ j, πs b j = π b j := fun b hb j => by rw [hπs, zup_n _ _ _ _ (fun e => hb e.1)]; unfold nπ; rw [if_neg hb]
  have eg : ∀ b, b < zN μ → ∀ j, g1 b j = g b j := fun b hb j => by rw [hg1]; unfold ng2; rw [if_neg (by omega)]
  have hgr : zgr μ (zal μ (5 + 8) 0) := zgr_al μ _ _
  have hm1 : mo 5 (zal μ (5 + 8) 0) σs πs S1 := ⟨(hM.1.fr hgr (fun b hb j => es b (by omega) j) (fun b hb j => ep b (by omega) j)).q hq, hM.2.mv (fun j => ep _ (by omega) j) (fun c _ => hq.1 79 (by decide) c)⟩
  have hC1 : CW n S1 (zal μ (5 + 8) 0) σs πs := hC.mv hgr (fun b hb j => es b (by omega) j) (fun b hb j => ep b (by omega) j) hm1 ⟨hC.t35.1.mv hgr (fun b j _ _ _ => ep b (by omega) j), ⟨fun i hi => by rw [es _ (by omega)]; exact hC.t35.2.1.1 i hi, fun i hi => by rw [es _ (by omega)]; exact hC.t35.2.1.2 i hi⟩⟩
    (fun b hb k hk => hq.2.2.2.2.2.2.1 b hb k hk) (fun k hk i hi => by rw [hS1]; exact (kpS_104 S n w a b c).2 _) (by rw [hS1]; simp [kpS, zu]) (fun i => by rw [hS1]; exact kp_ne S n w a b c (by decide) i)
  have hsp : zSp (zal μ (5 + 8) 0) σs πs (zN μ) S1 n := by
    refine ⟨Or.inr (by omega), by rw [zN_al]; omega, kN, ?_, ?_, ?_, ?_, ?_, fun h0 => ?_⟩
    · rw [hσs, e98, zu_n _ _ _ _ (by omega), zu_n _ _ _ _ (by omega), zu_n _ _ _ _ (by omega), zu_n _ _ _ _ (by omega), zu_eq]
    · rw [hσs, e99, zu_n _ _ _ _ (by omega), zu_n _ _ _ _ (by omega), zu_n _ _ _ _ (by omega), zu_eq]
    · rw [hσs, e100, zu_n _ _ _ _ (by omega), zu_n _ _ _ _ (by omega), zu_eq]
    · rw [hσs, e101, zu_n _ _ _ _ (by omega), zu_eq]
    · rw [hσs, e102, zu_eq]
    · exact absurd (e98.symm.trans h0) hw0
  have hC2 := hC1.push hsp (by omega)
  have hsp2 := (hC2.st (Nat.lt_succ_self n))
  obtain ⟨sp, hspe, hsp3⟩ := hsp2
  rw [zup_eq] at hspe
  cases hspe
  have hmz := hC2.m
  clear hC1 hsp
  have rest : zJ τ (zFn τ (fun r μ' => r = some (.int (nI (doF (S1) n).2)) ∧ zKp (n + 1) (doF (S1) n).1 μ σ π g μ') 1 6) 79 [some (.ref 0), some (.int w), some (.int a), some (.int b), some (.int c), some (.null), none] [.ref (zN μ), .ref 5] (zA4 (zal μ (5 + 8) 0) (zu σs 0 5 (nI (n + 1))) (zup πs 65 n (some (zN μ))) g1) 1 6 := by
    refine J_callV (ci := 6) hY dX8_keep_79 mfX6_tell miX6_tell msX6_tell kX8_214 ⟨by decide, rfl⟩ hmz.1.tb.k (c_X6_tellD hZ hO ta5 hmz hK hQ hsp3 hv hx hR hTm) rfl (by decide) rfl rfl (Nat.le_of_ble_eq_true rfl) (by decide) (by decide) (fun r2 μ2 hq2 => ?_)
    obtain ⟨rfl, σ3, π3, rfl, hM3, hf3, hp3⟩ := hq2
    show zJ _ _ _ _ (.int _ :: _) _ _ _
    exact J_iret hT dX8_keep_82 rfl rfl (⟨rfl, _, σ3, π3, g1, rfl, hC2.t5 hf3 hp3 hM3 (doF_k S1 n), hgr, fun b hb hb2 j => ⟨(hf3 b j (by unfold zmu; omega)).trans ((zu_ne _ _ _ _ (by omega) j).trans (es b (by omega) j)), (hp3 b j (by unfold zmp; omega)).trans ((zup_n _ _ _ _ (by omega)).trans (ep b (by omega) j)), eg b (by omega) j⟩⟩) (by decide) (by decide)
  refine J_aload_n (i := 0) hT dX8_keep_0 rfl rfl ?_
  refine R_getI hT fX8_41 rfl dX8_keep_1 hC.k0 ?_
  refine J_topil (hC.ct) ?_
  refine J_if_lt (tgt := 19) hT dX8_keep_4 (by decide) (fun q => absurd q (nI_pos (by omega))) (fun _ => ?_)
  refine J_aload_n (i := 0) hT dX8_keep_7 rfl rfl ?_
  refine R_getI hT fX8_41 rfl dX8_keep_8 hC.k0 ?_
  refine J_topil (hC.ct) ?_
  refine J_aload_n (i := 0) hT dX8_keep_11 rfl rfl ?_
  refine R_getP hT fX8_37 rfl dX8_keep_12 hC.k0 hC.p4 ?_
  refine R_alen hT dX8_keep_15 (by rw [hC.k65]; decide) hC.l65 ?_
  refine J_icmp_lt (tgt := 29) hT dX8_keep_16 (by decide) (fun _ => ?_) (fun q => absurd (nI_lt (a := n) (b := 40) hn (by decide)) q)
  refine J_new (ci := 5) hT (by decide) dX8_keep_29 kcX8_35 inX5 itX5 (by decide) (by decide) (by decide) ?_
  refine J_mu (zal_A4 μ σ π g (5 + 8) 0) ?_
  rw [← hg1]
  show zJ _ _ _ _ [.ref (zN μ)] _ _ _
  refine J_dup hT dX8_keep_32 rfl ?_
  refine J_iload_n (i := 1) hT dX8_keep_33 rfl rfl ?_
  refine J_iload_n (i := 2) hT dX8_keep_34 rfl rfl ?_
  refine J_iload_n (i := 3) hT dX8_keep_35 rfl rfl ?_
  refine J_iload (i := 4) hT dX8_keep_36 rfl ?_
  refine J_aloadN (i := 5) hT dX8_keep_38 rfl ?_
  refine J_aload_n (i := 0) hT dX8_keep_40 rfl rfl ?_
  refine R_getP hT fX8_28 rfl dX8_keep_41 (by rw [kK _ (by omega)]; exact hC.k0) (by unfold nπ; rw [if_neg (by omega)]; exact hC.p2) ?_
  refine R_getI hT fX8_158 rfl dX8_keep_44 (by rw [kK _ (by omega)]; exact hB.k) ?_
  refine J_topil (((show nσ μ σ 5 7 = σ 5 7 by unfold nσ; rw [if_neg (by omega)])).trans hM.1.w) ?_
  refine J_callI hY dX8_keep_47 mfX5_init rfl rfl miX5_init kX8_45 (c_X5_initN (f := 0) hZ kN) rfl (by decide) rfl rfl (Nat.le_of_ble_eq_true rfl) (by decide) (by decide) (fun r1 μ1 hq1 => ?_)
  obtain ⟨rfl, rfl⟩ := hq1
  rw [← hσs, ← hπs]
  show zJ _ _ _ _ [.ref (zN μ)] _ _ _
  refine S_astore6 hT dX8_keep_50 rfl ?_
  refine J_aload_n (i := 0) hT dX8_keep_52 rfl rfl ?_
  refine R_getP hT fX8_37 rfl dX8_keep_53 (by rw [kK _ (by omega)]; exact hC.k0) ((ep 0 (by omega) 4).trans hC.p4) ?_
  refine J_aload_n (i := 0) hT dX8_keep_56 rfl rfl ?_
  refine R_getI hT fX8_41 rfl dX8_keep_57 (by rw [kK _ (by omega)]; exact hC.k0) ?_
  refine J_topil (((es 0 (by omega) 5).trans hC.ct)) ?_
  refine J_aload (i := 6) hT dX8_keep_60 rfl ?_
  refine R_aast hT dX8_keep_62 (show zK (zal μ (5 + 8) 0) 65 = 7 by rw [kK _ (by omega)]; exact hC.k65) (by decide) kN (by rw [kL _ (by omega)]; exact hC.l65) (zix_nI (j := n) hn (by decide)) ?_
  refine J_aload_n (i := 0) hT dX8_keep_63 rfl rfl ?_
  refine J_dup hT dX8_keep_64 rfl ?_
  refine R_getI hT fX8_41 rfl dX8_keep_65 (by rw [kK _ (by omega)]; exact hC.k0) ?_
  refine J_topil (((es 0 (by omega) 5).trans hC.ct)) ?_
  refine J_iconst (v := 1) hT dX8_keep_68 rfl ?_
  refine J_iadd hT dX8_keep_69 ?_
  refine J_topil ((nI_1 n)) ?_
  refine R_putI hT fX8_41 rfl rfl dX8_keep_70 (by rw [kK _ (by omega)]; exact hC.k0) ?_
  refine J_aload_n (i := 0) hT dX8_keep_73 rfl rfl ?_
  refine R_getP hT fX8_28 rfl dX8_keep_74 (by rw [kK _ (by omega)]; exact hC.k0) ((zup_n _ _ _ _ (by omega)).trans ((ep 0 (by omega) 2).trans hC.p2)) ?_
  refine J_aload (i := 6) hT dX8_keep_77 rfl ?_
  refine J_L (L' := [_, _, _, _, _, _, none]) (zsub_keep (zsub_keep (zsub_keep (zsub_keep (zsub_keep (zsub_keep (zsub_drop zsub_nil))))))) ?_
  exact rest

set_option maxRecDepth 100000 in
set_option maxHeartbeats 4000000 in
theorem c_X8_keepF {l : Launch} {Z : zZ} (hZ : zSt l Z) (hO : zOps Z) {μ : zMem} {σ : zS2} {π : zP2} {g : zG2} {n : Nat} {S : zS2} (hC : CW n S μ σ π) (hn : n < 40) {w a b c : Int32} (hv : stepV (kpS S n w a b c) n) (hx : stX (kpS S n w a b c) n) (hR : kpS S n w a b c 98 n ≠ 10 → RI (chgF (kpS S n w a b c) n)) (hK : KI (kpS S n w a b c)) (hQ : QS (kpS S n w a b c)) (hTm : ∃ E, kpS S n w a b c 67 34 = nI E ∧ E ≤ 2000 ∧ (kpS S n w a b c 98 n = 10 → E + stC (kpS S n w a b c) n ≤ 2000)) {f : Nat} (hF : zFo μ σ π f (stw S n) (stN S n) (maskP S n 20000 20999 (stN S n)) (maskP S n 21000 21999 (stN S n)) (maskP S n 22000 29999 (stN S n))) : zCt l Z mX8_keep 6 1 6 [.ref 0, .int w, .int a, .int b, .int c, .ref f] (zA4 μ σ π g) (fun r μ' => r = some (.int (nI (doF (kpS S n w a b c) n).2)) ∧ zKp (n + 1) (doF (kpS S n w a b c) n).1 μ σ π g μ') := by
  refine zCt_of hZ mpX8_keep (Nat.le_of_ble_eq_true rfl) (L := [some (.ref 0), some (.int w), some (.int a), some (.int b), some (.int c), some (.ref f), none]) rfl (fun τ hY => ?_)
  have hT := hY.1
  have hM := hC.m
  have hB := hM.1.tb
  have hn107 := hC.nn
  have kK : ∀ b, b ≠ zN μ → zK (zal μ (5 + 8) 0) b = zK μ b := fun b hb => by rw [zK_al, if_neg hb]
  have kL : ∀ b, b ≠ zN μ → zL (zal μ (5 + 8) 0) b = zL μ b := fun b hb => by rw [zL_al, if_neg hb]
  have kN : zK (zal μ (5 + 8) 0) (zN μ) = 5 + 8 := by rw [zK_al, if_pos rfl]
  obtain ⟨S1, hS1⟩ : ∃ S1, S1 = kpS S n w a b c := ⟨_, rfl⟩
  obtain ⟨g1, hg1⟩ : ∃ g1, g1 = ng2 μ g := ⟨_, rfl⟩
  rw [← hS1] at hv hx hR hTm hK hQ ⊢
  have e98 : S1 98 n = w := by rw [hS1]; exact (kp_at S n w a b c).1
  have e99 : S1 99 n = a := by rw [hS1]; exact (kp_at S n w a b c).2.1
  have e100 : S1 100 n = b := by rw [hS1]; exact (kp_at S n w a b c).2.2.1
  have e101 : S1 101 n = c := by rw [hS1]; exact (kp_at S n w a b c).2.2.2
  have e102 : S1 102 n = S 67 34 := by rw [hS1]; exact kpS_at S n w a b c
  have hq : zq n S S1 := by rw [hS1]; exact kpS_q S n w a b c
  obtain ⟨σs, hσs⟩ : ∃ σs, σs = zu (zu (zu (zu (zu (nσ μ σ) (zN μ) 0 w) (zN μ) 1 a) (zN μ) 2 b) (zN μ) 3 c) (zN μ) 5 (S 67 34) := ⟨_, rfl⟩
  obtain ⟨πs, hπs⟩ : ∃ πs, πs = zup (nπ μ π) (zN μ) 4 (some f) := ⟨_, rfl⟩
  have es : ∀ b, b ≠ zN μ → ∀ j, σs b j = σ b j := fun b hb j => by rw [hσs, zu_ne _ _ _ _ hb, zu_ne _ _ _ _ hb, zu_ne _ _ _ _ hb, zu_ne _ _ _ _ hb, zu_ne _ _ _ _ hb]; unfold nσ; rw [if_neg hb]
  have ep : ∀ b, b ≠ zN μ → ∀ j, πs b j = π b j := fun b hb j => by rw [hπs, zup_n _ _ _ _ (fun e => hb e.1)]; unfold nπ; rw [if_neg hb]
  have eg : ∀ b, b < zN μ → ∀ j, g1 b j = g b j := fun b hb j => by rw [hg1]; unfold ng2; rw [if_neg (by omega)]
  have hgr : zgr μ (zal μ (5 + 8) 0) := zgr_al μ _ _
  have hm1 : mo 5 (zal μ (5 + 8) 0) σs πs S1 := ⟨(hM.1.fr hgr (fun b hb j => es b (by omega) j) (fun b hb j => ep b (by omega) j)).q hq, hM.2.mv (fun j => ep _ (by omega) j) (fun c _ => hq.1 79 (by decide) c)⟩
  have hC1 : CW n S1 (zal μ (5 + 8) 0) σs πs := hC.mv hgr (fun b hb j => es b (by omega) j) (fun b hb j => ep b (by omega) j) hm1 ⟨hC.t35.1.mv hgr (fun b j _ _ _ => ep b (by omega) j), ⟨fun i hi => by rw [es _ (by omega)]; exact hC.t35.2.1.1 i hi, fun i hi => by rw [es _ (by omega)]; exact hC.t35.2.1.2 i hi⟩⟩
    (fun b hb k hk => hq.2.2.2.2.2.2.1 b hb k hk) (fun k hk i hi => by rw [hS1]; exact (kpS_104 S n w a b c).2 _) (by rw [hS1]; simp [kpS, zu]) (fun i => by rw [hS1]; exact kp_ne S n w a b c (by decide) i)
  have hsp : zSp (zal μ (5 + 8) 0) σs πs (zN μ) S1 n := by
    refine ⟨Or.inr (by omega), by rw [zN_al]; omega, kN, ?_, ?_, ?_, ?_, ?_, fun h0 => ?_⟩
    · rw [hσs, e98, zu_n _ _ _ _ (by omega), zu_n _ _ _ _ (by omega), zu_n _ _ _ _ (by omega), zu_n _ _ _ _ (by omega), zu_eq]
    · rw [hσs, e99, zu_n _ _ _ _ (by omega), zu_n _ _ _ _ (by omega), zu_n _ _ _ _ (by omega), zu_eq]
    · rw [hσs, e100, zu_n _ _ _ _ (by omega), zu_n _ _ _ _ (by omega), zu_eq]
    · rw [hσs, e101, zu_n _ _ _ _ (by omega), zu_eq]
    · rw [hσs, e102, zu_eq]
    · refine ⟨f, by rw [hπs, zup_eq], ?_⟩
      have en : stN S1 n = stN S n := by unfold stN; rw [hS1, (kpS_104 S n w a b c).1]
      rw [en]
      exact hF.mv hgr (fun b hb hbn j => es b (by omega) j) (fun b hb hbn j => ep b (by omega) j) (fun k hk => by unfold stw; rw [hS1, (kpS_104 S n w a b c).2]) (maskP_mv _ (fun i _ => by rw [hS1, (kpS_104 S n w a b c).2])) (maskP_mv _ (fun i _ => by rw [hS1, (kpS_104 S n w a b c).2])) (maskP_mv _ (fun i _ => by rw [hS1, (kpS_104 S n w a b c).2]))
  have hC2 := hC1.push hsp (by omega)
  have hsp2 := (hC2.st (Nat.lt_succ_self n))
  obtain ⟨sp, hspe, hsp3⟩ := hsp2
  rw [zup_eq] at hspe
  cases hspe
  have hmz := hC2.m
  clear hC1 hsp
  have rest : zJ τ (zFn τ (fun r μ' => r = some (.int (nI (doF (S1) n).2)) ∧ zKp (n + 1) (doF (S1) n).1 μ σ π g μ') 1 6) 79 [some (.ref 0), some (.int w), some (.int a), some (.int b), some (.int c), some (.ref f), none] [.ref (zN μ), .ref 5] (zA4 (zal μ (5 + 8) 0) (zu σs 0 5 (nI (n + 1))) (zup πs 65 n (some (zN μ))) g1) 1 6 := by
    refine J_callV (ci := 6) hY dX8_keep_79 mfX6_tell miX6_tell msX6_tell kX8_214 ⟨by decide, rfl⟩ hmz.1.tb.k (c_X6_tellD hZ hO ta5 hmz hK hQ hsp3 hv hx hR hTm) rfl (by decide) rfl rfl (Nat.le_of_ble_eq_true rfl) (by decide) (by decide) (fun r2 μ2 hq2 => ?_)
    obtain ⟨rfl, σ3, π3, rfl, hM3, hf3, hp3⟩ := hq2
    show zJ _ _ _ _ (.int _ :: _) _ _ _
    exact J_iret hT dX8_keep_82 rfl rfl (⟨rfl, _, σ3, π3, g1, rfl, hC2.t5 hf3 hp3 hM3 (doF_k S1 n), hgr, fun b hb hb2 j => ⟨(hf3 b j (by unfold zmu; omega)).trans ((zu_ne _ _ _ _ (by omega) j).trans (es b (by omega) j)), (hp3 b j (by unfold zmp; omega)).trans ((zup_n _ _ _ _ (by omega)).trans (ep b (by omega) j)), eg b (by omega) j⟩⟩) (by decide) (by decide)
  refine J_aload_n (i := 0) hT dX8_keep_0 rfl rfl ?_
  refine R_getI hT fX8_41 rfl dX8_keep_1 hC.k0 ?_
  refine J_topil (hC.ct) ?_
  refine J_if_lt (tgt := 19) hT dX8_keep_4 (by decide) (fun q => absurd q (nI_pos (by omega))) (fun _ => ?_)
  refine J_aload_n (i := 0) hT dX8_keep_7 rfl rfl ?_
  refine R_getI hT fX8_41 rfl dX8_keep_8 hC.k0 ?_
  refine J_topil (hC.ct) ?_
  refine J_aload_n (i := 0) hT dX8_keep_11 rfl rfl ?_
  refine R_getP hT fX8_37 rfl dX8_keep_12 hC.k0 hC.p4 ?_
  refine R_alen hT dX8_keep_15 (by rw [hC.k65]; decide) hC.l65 ?_
  refine J_icmp_lt (tgt := 29) hT dX8_keep_16 (by decide) (fun _ => ?_) (fun q => absurd (nI_lt (a := n) (b := 40) hn (by decide)) q)
  refine J_new (ci := 5) hT (by decide) dX8_keep_29 kcX8_35 inX5 itX5 (by decide) (by decide) (by decide) ?_
  refine J_mu (zal_A4 μ σ π g (5 + 8) 0) ?_
  rw [← hg1]
  show zJ _ _ _ _ [.ref (zN μ)] _ _ _
  refine J_dup hT dX8_keep_32 rfl ?_
  refine J_iload_n (i := 1) hT dX8_keep_33 rfl rfl ?_
  refine J_iload_n (i := 2) hT dX8_keep_34 rfl rfl ?_
  refine J_iload_n (i := 3) hT dX8_keep_35 rfl rfl ?_
  refine J_iload (i := 4) hT dX8_keep_36 rfl ?_
  refine J_aload (i := 5) hT dX8_keep_38 rfl ?_
  refine J_aload_n (i := 0) hT dX8_keep_40 rfl rfl ?_
  refine R_getP hT fX8_28 rfl dX8_keep_41 (by rw [kK _ (by omega)]; exact hC.k0) (by unfold nπ; rw [if_neg (by omega)]; exact hC.p2) ?_
  refine R_getI hT fX8_158 rfl dX8_keep_44 (by rw [kK _ (by omega)]; exact hB.k) ?_
  refine J_topil (((show nσ μ σ 5 7 = σ 5 7 by unfold nσ; rw [if_neg (by omega)])).trans hM.1.w) ?_
  refine J_callI hY dX8_keep_47 mfX5_init rfl rfl miX5_init kX8_45 (c_X5_init hZ kN) rfl (by decide) rfl rfl (Nat.le_of_ble_eq_true rfl) (by decide) (by decide) (fun r1 μ1 hq1 => ?_)
  obtain ⟨rfl, rfl⟩ := hq1
  rw [← hσs, ← hπs]
  show zJ _ _ _ _ [.ref (zN μ)] _ _ _
  refine S_astore6 hT dX8_keep_50 rfl ?_
  refine J_aload_n (i := 0) hT dX8_keep_52 rfl rfl ?_
  refine R_getP hT fX8_37 rfl dX8_keep_53 (by rw [kK _ (by omega)]; exact hC.k0) ((ep 0 (by omega) 4).trans hC.p4) ?_
  refine J_aload_n (i := 0) hT dX8_keep_56 rfl rfl ?_
  refine R_getI hT fX8_41 rfl dX8_keep_57 (by rw [kK _ (by omega)]; exact hC.k0) ?_
  refine J_topil (((es 0 (by omega) 5).trans hC.ct)) ?_
  refine J_aload (i := 6) hT dX8_keep_60 rfl ?_
  refine R_aast hT dX8_keep_62 (show zK (zal μ (5 + 8) 0) 65 = 7 by rw [kK _ (by omega)]; exact hC.k65) (by decide) kN (by rw [kL _ (by omega)]; exact hC.l65) (zix_nI (j := n) hn (by decide)) ?_
  refine J_aload_n (i := 0) hT dX8_keep_63 rfl rfl ?_
  refine J_dup hT dX8_keep_64 rfl ?_
  refine R_getI hT fX8_41 rfl dX8_keep_65 (by rw [kK _ (by omega)]; exact hC.k0) ?_
  refine J_topil (((es 0 (by omega) 5).trans hC.ct)) ?_
  refine J_iconst (v := 1) hT dX8_keep_68 rfl ?_
  refine J_iadd hT dX8_keep_69 ?_
  refine J_topil ((nI_1 n)) ?_
  refine R_putI hT fX8_41 rfl rfl dX8_keep_70 (by rw [kK _ (by omega)]; exact hC.k0) ?_
  refine J_aload_n (i := 0) hT dX8_keep_73 rfl rfl ?_
  refine R_getP hT fX8_28 rfl dX8_keep_74 (by rw [kK _ (by omega)]; exact hC.k0) ((zup_n _ _ _ _ (by omega)).trans ((ep 0 (by omega) 2).trans hC.p2)) ?_
  refine J_aload (i := 6) hT dX8_keep_77 rfl ?_
  refine J_L (L' := [_, _, _, _, _, _, none]) (zsub_keep (zsub_keep (zsub_keep (zsub_keep (zsub_keep (zsub_keep (zsub_drop zsub_nil))))))) ?_
  exact rest


