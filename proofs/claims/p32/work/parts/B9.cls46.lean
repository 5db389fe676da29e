/-! ===== the class's formula ===== -/
theorem CW.grow {n : Nat} {S : zS2} {μ μ' : zMem} {σ σ' : zS2} {π π' : zP2} (h : CW n S μ σ π) (hg : zgr μ μ') (e : ∀ b, b < zN μ → ∀ j, σ' b j = σ b j ∧ π' b j = π b j) : CW n S μ' σ' π' := by
  have hn := h.nn
  have im : ∀ b, Im b ∧ b < zN μ → b < zN μ := fun b q => q.2
  refine h.mv hg (fun b hb j => (e b (by omega) j).1) (fun b hb j => (e b (by omega) j).2) ⟨h.m.1.fr hg (fun b hb j => (e b (by omega) j).1) (fun b hb j => (e b (by omega) j).2), h.m.2.mv (fun j => (e _ (by omega) j).2) (fun c _ => rfl)⟩ ⟨h.t35.1.mv hg (fun b j _ _ _ => (e b (by omega) j).2), ⟨fun i hi => by rw [(e _ (by omega) _).1]; exact h.t35.2.1.1 i hi, fun i hi => by rw [(e _ (by omega) _).1]; exact h.t35.2.1.2 i hi⟩⟩ (fun _ _ _ _ => rfl) (fun _ _ _ _ => rfl) rfl (fun _ => rfl)
theorem CW.zq {n : Nat} {S S' : zS2} {μ : zMem} {σ : zS2} {π : zP2} (h : CW n S μ σ π) (q : zq n S S') (h1 : S' 67 1 = S 67 1) (h8 : ∀ i, S' 68 i = S 68 i) (h3 : ∀ k, k < n → stN S k ≤ 30) : CW n S' μ σ π :=
  h.mv zgr.rf (fun _ _ _ => rfl) (fun _ _ _ => rfl) ⟨h.m.1.q q, h.m.2.mv (fun _ => rfl) (fun c _ => q.1 79 (by decide) c)⟩ ⟨h.t35.1, h.t35.2.1⟩ (fun b hb k hk => q.2.2.2.2.2.2.1 b hb k hk) (fun k hk i hi => q.2.2.2.2.2.2.2 k hk i (Nat.lt_of_lt_of_le hi (h3 k hk))) h1 h8
theorem zMk.kp {n : Nat} {S : zS2} {μ : zMem} {σ : zS2} {π : zP2} {g : zG2} {m : Nat} (h : CW n S μ σ π) {σ' : zS2} {π' : zP2} {g' : zG2} (e : ∀ b, b < zN μ → ∀ j, σ' b j = σ b j ∧ π' b j = π b j ∧ g' b j = g b j) : CW n S (zal (zal μ (1 + 8) 0) 0 m) σ' π' ∧ zgr μ (zal (zal μ (1 + 8) 0) 0 m) ∧ zcl σ σ' π π' g g' := by
  have hg : zgr μ (zal (zal μ (1 + 8) 0) 0 m) := (zgr_al μ _ _).tr (zgr_al _ _ _)
  have hn := h.nn
  exact ⟨h.grow hg (fun b hb j => ⟨(e b hb j).1, (e b hb j).2.1⟩), hg, fun b h1 h2 j => e b (by omega) j⟩
theorem zcl.pf {σ σ' : zS2} {π : zP2} {g : zG2} (h : zPf σ σ') : zcl σ σ' π π g g := fun b h1 _ j => ⟨h b j (by omega) (by omega), rfl, rfl⟩
set_option maxRecDepth 100000 in
set_option maxHeartbeats 4000000 in
theorem x_X8_keepQ {l : Launch} {Z : zZ} (hZ : zSt l Z) {μ : zMem} {σ : zS2} {π : zP2} {g : zG2} {n : Nat} {S : zS2} (hC : CW n S μ σ π) (hX : zXs Z) (hn40 : n ≤ 40) (hn : ¬ n < 40) {w a b c : Int32} {f : Nat} {Q : zMem → Prop} (hQ : Q (zA4 μ σ π g)) : zCtX l Z mX8_keep 6 1 6 [.ref 0, .int w, .int a, .int b, .int c, .ref f] (zA4 μ σ π g) "java/lang/IllegalStateException" Q := by
  refine zCtX_of hZ mpX8_keep (Nat.le_of_ble_eq_true rfl) (L := [some (.ref 0), some (.int w), some (.int a), some (.int b), some (.int c), some (.ref f), none]) rfl (fun τ hYX => ?_)
  have hY := hYX.1
  have hT := hY.1
  have hn2 : n = 40 := by omega
  subst hn2
  refine J_aload_n (i := 0) hT dX8_keep_0 rfl rfl ?_
  refine R_getI hT fX8_41 rfl dX8_keep_1 hC.k0 ?_
  refine J_topil (hC.ct) ?_
  refine J_if_lt (tgt := 19) hT dX8_keep_4 (by decide) (fun q => absurd q (nI_pos (by omega))) (fun _ => ?_)
  refine J_aload_n (i := 0) hT dX8_keep_7 rfl rfl ?_
  refine R_getI hT fX8_41 rfl dX8_keep_8 hC.k0 ?_
  refine J_topil (hC.ct) ?_
  refine J_aload_n (i := 0) hT dX8_keep_11 rfl rfl ?_
  refine R_getP hT fX8_37 rfl dX8_keep_12 hC.k0 hC.p4 ?_
  refine R_alen hT dX8_keep_15 (by rw [hC.k65]; decide) hC.l65 ?_
  refine J_icmp_lt (tgt := 29) hT dX8_keep_16 (by decide) (fun q => absurd q (Int32.not_lt.mpr (nI_le (a := 40) (b := 40) (by decide) (by decide)))) (fun _ => ?_)
  exact J_throw_ise hYX hX rfl (tx := "as many steps as may be are kept") (by decide) dX8_keep_19 dX8_keep_22 dX8_keep_23 dX8_keep_25 dX8_keep_28 rfl (by decide) (hQ) (by first | exact Nat.le_refl _ | decide | omega) (by first | exact Nat.le_refl _ | decide | omega)

set_option maxRecDepth 100000 in
set_option maxHeartbeats 4000000 in
theorem x_X8_formula_1 {l : Launch} {Z : zZ} (hZ : zSt l Z) {μ : zMem} {σ : zS2} {π : zP2} {g : zG2} {n : Nat} {S : zS2} (hC : CW n S μ σ π) (hX : zXs Z) {a : Int32} (h : cellB a = false) : zCtX l Z mX8_formula 170 3 38 [.ref 0, .int a] (zA4 μ σ π g) "java/lang/IndexOutOfBoundsException" (fun μ' => μ' = zA4 μ σ π g) := by
  refine zCtX_of hZ mpX8_formula (Nat.le_of_ble_eq_true rfl) (L := [some (.ref 0), some (.int a), none]) rfl (fun τ hYX => ?_)
  have hY := hYX.1
  have hT := hY.1
  refine J_iload_n (i := 1) hT dX8_formula_0 rfl rfl ?_
  exact J_callSX hYX dX8_formula_1 mfX8_checkCell mtX8_checkCell (Or.inl mlX8_91) (x_X8_checkCell hZ hX h) rfl (by decide) rfl rfl (Nat.le_of_ble_eq_true rfl) (by first | exact Nat.le_refl _ | decide | omega) (by first | exact Nat.le_refl _ | decide | omega) mlX8_91

set_option maxRecDepth 100000 in
set_option maxHeartbeats 4000000 in
theorem x_X8_formula_2 {l : Launch} {Z : zZ} (hZ : zSt l Z) {μ : zMem} {σ : zS2} {π : zP2} {g : zG2} {n : Nat} {S : zS2} (hC : CW n S μ σ π) (hX : zXs Z) {L : Nat} (hL : TX L S) {c : Nat} (hc : c < 12) (hd : cFl (dR0 S L) L ≠ -1) : zCtX l Z mX8_formula 170 3 38 [.ref 0, .int (nI c)] (zA4 μ σ π g) "java/lang/IllegalArgumentException" (fun μ' => zKp n S μ σ π g μ') := by
  refine zCtX_of hZ mpX8_formula (Nat.le_of_ble_eq_true rfl) (L := [some (.ref 0), some (.int (nI c)), none]) rfl (fun τ hYX => ?_)
  have hY := hYX.1
  have hT := hY.1
  have hM := hC.m
  have hB := hM.1.tb
  have hH := hC.ph
  refine J_iload_n (i := 1) hT dX8_formula_0 rfl rfl ?_
  refine R_callS0 hY dX8_formula_1 mfX8_checkCell mtX8_checkCell kX8_91 (c_X8_checkCell hZ hc) rfl (by decide) rfl rfl (Nat.le_of_ble_eq_true rfl) (by decide) (by decide) ?_
  refine J_aload_n (i := 0) hT dX8_formula_4 rfl rfl ?_
  refine R_getP hT fX8_21 rfl dX8_formula_5 hC.k0 hC.p1 ?_
  refine J_callV (ci := 2) hY dX8_formula_8 mfX2_findFault miX2_findFault msX2_findFault kX8_87 ⟨by decide, rfl⟩ hH.k3 (c_X2_findFault hZ hH (hC.txx hL)) rfl (by decide) rfl rfl (Nat.le_of_ble_eq_true rfl) (by decide) (by decide) (fun r1 μ1 hq1 => ?_)
  obtain ⟨rfl, σ1, rfl, hf1, hP1⟩ := hq1
  show zJ _ _ _ _ (.int _ :: _) _ _ _
  refine J_iconst (v := -1) hT dX8_formula_11 rfl ?_
  refine J_icmp_eq (tgt := 25) hT dX8_formula_12 (by decide) (fun q => absurd q (hd)) (fun _ => ?_)
  exact J_throw_iae hYX hX rfl (tx := "the text is no formula") (by decide) dX8_formula_15 dX8_formula_18 dX8_formula_19 dX8_formula_21 dX8_formula_24 rfl (by decide) (⟨_, _, _, _, rfl, hC.pf hf1, zgr.rf, zcl.pf hf1⟩) (by first | exact Nat.le_refl _ | decide | omega) (by first | exact Nat.le_refl _ | decide | omega)

set_option maxRecDepth 100000 in
set_option maxHeartbeats 4000000 in
theorem x_X8_formula_3 {l : Launch} {Z : zZ} (hZ : zSt l Z) {μ : zMem} {σ : zS2} {π : zP2} {g : zG2} {n : Nat} {S : zS2} (hC : CW n S μ σ π) (hX : zXs Z) {L : Nat} (hL : TX L S) {c : Nat} (hc : c < 12) {ks : List Nat} (hd : dR0 S L = .inr (L, ks)) (hk : ∀ x, x ∈ ks → tokR x) (hD : DepthOK S) (hh : bt (belF S false (pkm ks)) c = true) : zCtX l Z mX8_formula 170 3 38 [.ref 0, .int (nI c)] (zA4 μ σ π g) "java/lang/IllegalStateException" (fun μ' => zKp n S μ σ π g μ') := by
  refine zCtX_of hZ mpX8_formula (Nat.le_of_ble_eq_true rfl) (L := [some (.ref 0), some (.int (nI c)), none]) rfl (fun τ hYX => ?_)
  have hY := hYX.1
  have hT := hY.1
  have hM := hC.m
  have hB := hM.1.tb
  have hH := hC.ph
  have hn107 := hC.nn
  refine J_iload_n (i := 1) hT dX8_formula_0 rfl rfl ?_
  refine R_callS0 hY dX8_formula_1 mfX8_checkCell mtX8_checkCell kX8_91 (c_X8_checkCell hZ hc) rfl (by decide) rfl rfl (Nat.le_of_ble_eq_true rfl) (by decide) (by decide) ?_
  refine J_aload_n (i := 0) hT dX8_formula_4 rfl rfl ?_
  refine R_getP hT fX8_21 rfl dX8_formula_5 hC.k0 hC.p1 ?_
  refine J_callV (ci := 2) hY dX8_formula_8 mfX2_findFault miX2_findFault msX2_findFault kX8_87 ⟨by decide, rfl⟩ hH.k3 (c_X2_findFault hZ hH (hC.txx hL)) rfl (by decide) rfl rfl (Nat.le_of_ble_eq_true rfl) (by decide) (by decide) (fun r1 μ1 hq1 => ?_)
  obtain ⟨rfl, σ1, rfl, hf1, hP1⟩ := hq1
  show zJ _ _ _ _ (.int _ :: _) _ _ _
  refine J_iconst (v := -1) hT dX8_formula_11 rfl ?_
  refine J_icmp_eq (tgt := 25) hT dX8_formula_12 (by decide) (fun _ => ?_) (fun q => absurd ((by rw [hd]; exact if_neg (Nat.lt_irrefl L))) q)
  have hP := hP1 L ks hd
  have hH1 : zPh μ π := hH
  have hks : ks.length ≤ 30 := by have := hP.2.2.2.2.2.1; have := hL.2.1; omega
  refine J_aload_n (i := 0) hT dX8_formula_25 rfl rfl ?_
  refine R_getP hT fX8_21 rfl dX8_formula_26 hC.k0 hC.p1 ?_
  refine J_callV (ci := 2) hY dX8_formula_29 mfX2_makeFormula miX2_makeFormula msX2_makeFormula kX8_97 ⟨by decide, rfl⟩ hH.k3 (c_X2_makeFormula hZ hH (by omega) hP.1 hP.2.1 hks) rfl (by decide) rfl rfl (Nat.le_of_ble_eq_true rfl) (by decide) (by decide) (fun r2 μ2 hq2 => ?_)
  obtain ⟨rfl, σ2, π2, g2, rfl, he, hr1, hr2, hr3⟩ := hq2
  show zJ _ _ _ _ (.ref (zN μ) :: _) _ _ _
  obtain ⟨hC2, hg2, hz2⟩ := zMk.kp (hC.pf hf1) he
  have hz3 := (zcl.pf (π := π) (g := g) hf1).tr hz2
  obtain ⟨μ3, hμ3⟩ : ∃ x, x = zal (zal μ (1 + 8) 0) 0 ks.length := ⟨_, rfl⟩
  rw [← hμ3] at hC2 hg2 ⊢
  have hM2 := hC2.m
  have hB2 := hM2.1.tb
  have hkf : zK μ3 (zN μ) = 1 + 8 := by rw [hμ3]; exact (if_neg (show ¬ zN μ = zN μ + 1 by omega)).trans (if_pos rfl)
  refine S_astore2 hT dX8_formula_32 rfl rfl ?_
  refine J_aload_n (i := 0) hT dX8_formula_33 rfl rfl ?_
  refine R_getP hT fX8_28 rfl dX8_formula_34 hC2.k0 hC2.p2 ?_
  refine J_aload_n (i := 2) hT dX8_formula_37 rfl rfl ?_
  refine R_getI hT fX8_101 rfl dX8_formula_38 hkf ?_
  refine J_topil (hr1) ?_
  refine J_callV (ci := 6) hY dX8_formula_41 mfX6_withAllRead miX6_withAllRead msX6_withAllRead kX8_106 ⟨by decide, rfl⟩ hB2.k (c_X6_withAllRead (m := pkm ks) hZ ta5 hM2 hD) rfl (by decide) rfl rfl (Nat.le_of_ble_eq_true rfl) (by decide) (by decide) (fun r3 μ3' hq3 => ?_)
  obtain ⟨⟨a, rfl, hWA⟩, rfl⟩ := hq3
  show zJ _ _ _ _ (.int a :: _) _ _ _
  have hbit := hWA.1 c hc
  refine J_iload_n (i := 1) hT dX8_formula_44 rfl rfl ?_
  refine R_callS1 hY dX8_formula_45 mfX8_has mtX8_has kX8_109 (c_X8_has (i := c) hZ (by omega)) rfl (by decide) rfl rfl (Nat.le_of_ble_eq_true rfl) (by decide) (by decide) ?_
  refine J_if_eq (tgt := 61) hT dX8_formula_48 (by decide) (fun q => absurd q ((by rw [hbit, hh]; decide))) (fun _ => ?_)
  exact J_throw_ise hYX hX rfl (tx := "the cell would hang on itself") (by decide) dX8_formula_51 dX8_formula_54 dX8_formula_55 dX8_formula_57 dX8_formula_60 rfl (by decide) (⟨_, _, _, _, rfl, hC2, hg2, hz3⟩) (by first | exact Nat.le_refl _ | decide | omega) (by first | exact Nat.le_refl _ | decide | omega)

set_option maxRecDepth 100000 in
set_option maxHeartbeats 4000000 in
theorem x_X8_formula_4 {l : Launch} {Z : zZ} (hZ : zSt l Z) {μ : zMem} {σ : zS2} {π : zP2} {g : zG2} {n : Nat} {S : zS2} (hC : CW n S μ σ π) (hX : zXs Z) (hn40 : n ≤ 40) (hn : ¬ n < 40) {L : Nat} (hL : TX L S) {c : Nat} (hc : c < 12) {ks : List Nat} (hd : dR0 S L = .inr (L, ks)) (hk : ∀ x, x ∈ ks → tokR x) (hD : DepthOK S) (hh : bt (belF S false (pkm ks)) c = false) : zCtX l Z mX8_formula 170 3 38 [.ref 0, .int (nI c)] (zA4 μ σ π g) "java/lang/IllegalStateException" (fun μ' => zKp n S μ σ π g μ') := by
  refine zCtX_of hZ mpX8_formula (Nat.le_of_ble_eq_true rfl) (L := [some (.ref 0), some (.int (nI c)), none]) rfl (fun τ hYX => ?_)
  have hY := hYX.1
  have hT := hY.1
  have hM := hC.m
  have hB := hM.1.tb
  have hH := hC.ph
  have hn107 := hC.nn
  refine J_iload_n (i := 1) hT dX8_formula_0 rfl rfl ?_
  refine R_callS0 hY dX8_formula_1 mfX8_checkCell mtX8_checkCell kX8_91 (c_X8_checkCell hZ hc) rfl (by decide) rfl rfl (Nat.le_of_ble_eq_true rfl) (by decide) (by decide) ?_
  refine J_aload_n (i := 0) hT dX8_formula_4 rfl rfl ?_
  refine R_getP hT fX8_21 rfl dX8_formula_5 hC.k0 hC.p1 ?_
  refine J_callV (ci := 2) hY dX8_formula_8 mfX2_findFault miX2_findFault msX2_findFault kX8_87 ⟨by decide, rfl⟩ hH.k3 (c_X2_findFault hZ hH (hC.txx hL)) rfl (by decide) rfl rfl (Nat.le_of_ble_eq_true rfl) (by decide) (by decide) (fun r1 μ1 hq1 => ?_)
  obtain ⟨rfl, σ1, rfl, hf1, hP1⟩ := hq1
  show zJ _ _ _ _ (.int _ :: _) _ _ _
  refine J_iconst (v := -1) hT dX8_formula_11 rfl ?_
  refine J_icmp_eq (tgt := 25) hT dX8_formula_12 (by decide) (fun _ => ?_) (fun q => absurd ((by rw [hd]; exact if_neg (Nat.lt_irrefl L))) q)
  have hP := hP1 L ks hd
  have hH1 : zPh μ π := hH
  have hks : ks.length ≤ 30 := by have := hP.2.2.2.2.2.1; have := hL.2.1; omega
  refine J_aload_n (i := 0) hT dX8_formula_25 rfl rfl ?_
  refine R_getP hT fX8_21 rfl dX8_formula_26 hC.k0 hC.p1 ?_
  refine J_callV (ci := 2) hY dX8_formula_29 mfX2_makeFormula miX2_makeFormula msX2_makeFormula kX8_97 ⟨by decide, rfl⟩ hH.k3 (c_X2_makeFormula hZ hH (by omega) hP.1 hP.2.1 hks) rfl (by decide) rfl rfl (Nat.le_of_ble_eq_true rfl) (by decide) (by decide) (fun r2 μ2 hq2 => ?_)
  obtain ⟨rfl, σ2, π2, g2, rfl, he, hr1, hr2, hr3⟩ := hq2
  show zJ _ _ _ _ (.ref (zN μ) :: _) _ _ _
  obtain ⟨hC2, hg2, hz2⟩ := zMk.kp (hC.pf hf1) he
  have hz3 := (zcl.pf (π := π) (g := g) hf1).tr hz2
  obtain ⟨μ3, hμ3⟩ : ∃ x, x = zal (zal μ (1 + 8) 0) 0 ks.length := ⟨_, rfl⟩
  rw [← hμ3] at hC2 hg2 ⊢
  have hM2 := hC2.m
  have hB2 := hM2.1.tb
  have hkf : zK μ3 (zN μ) = 1 + 8 := by rw [hμ3]; exact (if_neg (show ¬ zN μ = zN μ + 1 by omega)).trans (if_pos rfl)
  refine S_astore2 hT dX8_formula_32 rfl rfl ?_
  refine J_aload_n (i := 0) hT dX8_formula_33 rfl rfl ?_
  refine R_getP hT fX8_28 rfl dX8_formula_34 hC2.k0 hC2.p2 ?_
  refine J_aload_n (i := 2) hT dX8_formula_37 rfl rfl ?_
  refine R_getI hT fX8_101 rfl dX8_formula_38 hkf ?_
  refine J_topil (hr1) ?_
  refine J_callV (ci := 6) hY dX8_formula_41 mfX6_withAllRead miX6_withAllRead msX6_withAllRead kX8_106 ⟨by decide, rfl⟩ hB2.k (c_X6_withAllRead (m := pkm ks) hZ ta5 hM2 hD) rfl (by decide) rfl rfl (Nat.le_of_ble_eq_true rfl) (by decide) (by decide) (fun r3 μ3' hq3 => ?_)
  obtain ⟨⟨a, rfl, hWA⟩, rfl⟩ := hq3
  show zJ _ _ _ _ (.int a :: _) _ _ _
  have hbit := hWA.1 c hc
  refine J_iload_n (i := 1) hT dX8_formula_44 rfl rfl ?_
  refine R_callS1 hY dX8_formula_45 mfX8_has mtX8_has kX8_109 (c_X8_has (i := c) hZ (by omega)) rfl (by decide) rfl rfl (Nat.le_of_ble_eq_true rfl) (by decide) (by decide) ?_
  refine J_if_eq (tgt := 61) hT dX8_formula_48 (by decide) (fun _ => ?_) (fun q => absurd ((by rw [hbit, hh]; decide)) q)
  refine J_aload_n (i := 0) hT dX8_formula_61 rfl rfl ?_
  refine J_iconst (v := 0) hT dX8_formula_62 rfl ?_
  refine J_iload_n (i := 1) hT dX8_formula_63 rfl rfl ?_
  refine J_iconst (v := 0) hT dX8_formula_64 rfl ?_
  refine J_iconst (v := 0) hT dX8_formula_65 rfl ?_
  refine J_aload_n (i := 2) hT dX8_formula_66 rfl rfl ?_
  exact J_callVX (ci := 8) hYX dX8_formula_67 mfX8_keep miX8_keep msX8_keep ⟨by decide, rfl⟩ hC2.k0 (x_X8_keepQ (Q := fun x => zKp n S μ σ π g x) hZ hC2 hX hn40 hn ⟨_, _, _, _, rfl, hC2, hg2, hz3⟩) rfl (Nat.le_of_ble_eq_true rfl) rfl rfl (by decide) (by decide) (by decide) mlX8_115

set_option maxRecDepth 100000 in
set_option maxHeartbeats 4000000 in
theorem c_X8_formula {l : Launch} {Z : zZ} (hZ : zSt l Z) (hO : zOps Z) {μ : zMem} {σ : zS2} {π : zP2} {g : zG2} {n : Nat} {S : zS2} (hC : CW n S μ σ π) (hn : n < 40) {L : Nat} (hL : TX L S) {c : Nat} (hc : c < 12) {ks : List Nat} (hd : dR0 S L = .inr (L, ks)) (hk : ∀ x, x ∈ ks → tokR x) (hD : DepthOK S) (hh : bt (belF S false (pkm ks)) c = false) {S1 : zS2} (hq : zq n S S1) (h1 : S1 67 1 = S 67 1) (h8 : ∀ i, S1 68 i = S 68 i) (h3 : ∀ k, k < n → stN S k ≤ 30) (hr : zCr S1 n ks) (hs : stN S1 n = ks.length) (hKS : KS n S1 0 (nI c) 0 0) : zCt l Z mX8_formula 170 3 38 [.ref 0, .int (nI c)] (zA4 μ σ π g) (fun r μ' => r = some (.int (nI (doF (kpS S1 n 0 (nI c) 0 0) n).2)) ∧ zKp (n + 1) (doF (kpS S1 n 0 (nI c) 0 0) n).1 μ σ π g μ') := by
  refine zCt_of hZ mpX8_formula (Nat.le_of_ble_eq_true rfl) (L := [some (.ref 0), some (.int (nI c)), none]) rfl (fun τ hY => ?_)
  have hT := hY.1
  have hM := hC.m
  have hB := hM.1.tb
  have hH := hC.ph
  have hn107 := hC.nn
  refine J_iload_n (i := 1) hT dX8_formula_0 rfl rfl ?_
  refine R_callS0 hY dX8_formula_1 mfX8_checkCell mtX8_checkCell kX8_91 (c_X8_checkCell hZ hc) rfl (by decide) rfl rfl (Nat.le_of_ble_eq_true rfl) (by decide) (by decide) ?_
  refine J_aload_n (i := 0) hT dX8_formula_4 rfl rfl ?_
  refine R_getP hT fX8_21 rfl dX8_formula_5 hC.k0 hC.p1 ?_
  refine J_callV (ci := 2) hY dX8_formula_8 mfX2_findFault miX2_findFault msX2_findFault kX8_87 ⟨by decide, rfl⟩ hH.k3 (c_X2_findFault hZ hH (hC.txx hL)) rfl (by decide) rfl rfl (Nat.le_of_ble_eq_true rfl) (by decide) (by decide) (fun r1 μ1 hq1 => ?_)
  obtain ⟨rfl, σ1, rfl, hf1, hP1⟩ := hq1
  show zJ _ _ _ _ (.int _ :: _) _ _ _
  refine J_iconst (v := -1) hT dX8_formula_11 rfl ?_
  refine J_icmp_eq (tgt := 25) hT dX8_formula_12 (by decide) (fun _ => ?_) (fun q => absurd ((by rw [hd]; exact if_neg (Nat.lt_irrefl L))) q)
  have hP := hP1 L ks hd
  have hH1 : zPh μ π := hH
  have hks : ks.length ≤ 30 := by have := hP.2.2.2.2.2.1; have := hL.2.1; omega
  refine J_aload_n (i := 0) hT dX8_formula_25 rfl rfl ?_
  refine R_getP hT fX8_21 rfl dX8_formula_26 hC.k0 hC.p1 ?_
  refine J_callV (ci := 2) hY dX8_formula_29 mfX2_makeFormula miX2_makeFormula msX2_makeFormula kX8_97 ⟨by decide, rfl⟩ hH.k3 (c_X2_makeFormula hZ hH (by omega) hP.1 hP.2.1 hks) rfl (by decide) rfl rfl (Nat.le_of_ble_eq_true rfl) (by decide) (by decide) (fun r2 μ2 hq2 => ?_)
  obtain ⟨rfl, σ2, π2, g2, rfl, he, hr1, hr2, hr3⟩ := hq2
  show zJ _ _ _ _ (.ref (zN μ) :: _) _ _ _
  obtain ⟨hC2, hg2, hz2⟩ := zMk.kp (hC.pf hf1) he
  have hz3 := (zcl.pf (π := π) (g := g) hf1).tr hz2
  obtain ⟨μ3, hμ3⟩ : ∃ x, x = zal (zal μ (1 + 8) 0) 0 ks.length := ⟨_, rfl⟩
  rw [← hμ3] at hC2 hg2 ⊢
  have hM2 := hC2.m
  have hB2 := hM2.1.tb
  have hkf : zK μ3 (zN μ) = 1 + 8 := by rw [hμ3]; exact (if_neg (show ¬ zN μ = zN μ + 1 by omega)).trans (if_pos rfl)
  have hC3 := hC2.zq hq h1 h8 h3
  have hF : zFo μ3 σ2 π2 (zN μ) (stw S1 n) (stN S1 n) (maskP S1 n 20000 20999 (stN S1 n)) (maskP S1 n 21000 21999 (stN S1 n)) (maskP S1 n 22000 29999 (stN S1 n)) := by
    rw [hμ3]; exact zMk.fo (g := g2) (rd := 0) (π := π) hn107 hP hk hr hs hr1 hr2 hr3
  refine S_astore2 hT dX8_formula_32 rfl rfl ?_
  refine J_aload_n (i := 0) hT dX8_formula_33 rfl rfl ?_
  refine R_getP hT fX8_28 rfl dX8_formula_34 hC2.k0 hC2.p2 ?_
  refine J_aload_n (i := 2) hT dX8_formula_37 rfl rfl ?_
  refine R_getI hT fX8_101 rfl dX8_formula_38 hkf ?_
  refine J_topil (hr1) ?_
  refine J_callV (ci := 6) hY dX8_formula_41 mfX6_withAllRead miX6_withAllRead msX6_withAllRead kX8_106 ⟨by decide, rfl⟩ hB2.k (c_X6_withAllRead (m := pkm ks) hZ ta5 hM2 hD) rfl (by decide) rfl rfl (Nat.le_of_ble_eq_true rfl) (by decide) (by decide) (fun r3 μ3' hq3 => ?_)
  obtain ⟨⟨a, rfl, hWA⟩, rfl⟩ := hq3
  show zJ _ _ _ _ (.int a :: _) _ _ _
  have hbit := hWA.1 c hc
  refine J_iload_n (i := 1) hT dX8_formula_44 rfl rfl ?_
  refine R_callS1 hY dX8_formula_45 mfX8_has mtX8_has kX8_109 (c_X8_has (i := c) hZ (by omega)) rfl (by decide) rfl rfl (Nat.le_of_ble_eq_true rfl) (by decide) (by decide) ?_
  refine J_if_eq (tgt := 61) hT dX8_formula_48 (by decide) (fun _ => ?_) (fun q => absurd ((by rw [hbit, hh]; decide)) q)
  refine J_aload_n (i := 0) hT dX8_formula_61 rfl rfl ?_
  refine J_iconst (v := 0) hT dX8_formula_62 rfl ?_
  refine J_iload_n (i := 1) hT dX8_formula_63 rfl rfl ?_
  refine J_iconst (v := 0) hT dX8_formula_64 rfl ?_
  refine J_iconst (v := 0) hT dX8_formula_65 rfl ?_
  refine J_aload_n (i := 2) hT dX8_formula_66 rfl rfl ?_
  refine J_callV (ci := 8) hY dX8_formula_67 mfX8_keep miX8_keep msX8_keep kX8_115 ⟨by decide, rfl⟩ hC2.k0 (c_X8_keepF hZ hO hC3 hn hKS.1 hKS.2.1 hKS.2.2.1 hKS.2.2.2.1 hKS.2.2.2.2.1 hKS.2.2.2.2.2 hF) rfl (by decide) rfl rfl (Nat.le_of_ble_eq_true rfl) (by decide) (by decide) (fun r4 μ4 hq4 => ?_)
  obtain ⟨rfl, μ5, σ5, π5, g5, rfl, hC5, hg5, hz5⟩ := hq4
  show zJ _ _ _ _ (.int _ :: _) _ _ _
  exact J_iret hT dX8_formula_70 rfl rfl (⟨rfl, μ5, σ5, π5, g5, rfl, hC5, hg2.tr hg5, hz3.tr hz5⟩) (by decide) (by decide)


