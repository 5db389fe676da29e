theorem DX_fix {T : zS2} (h0 : ∀ j, j < 12 → T 79 j = nI 0) (hD : DepthOK (dpR T 12)) : DX (dpR T 12) := by
  obtain ⟨_, a2, a3⟩ := dpR_fix (S := T) (ρ := rnk (fun k => (dpR T 12 79 k).toInt)) (fun k hk => rnk_11 _ hk) (fun k j hk hj hb => rnk_lt hj (by
    have := hD k j hk hj (by rw [dpR_rd T 12 (by decide)]; exact hb)
    exact Int32.lt_iff_toInt_lt.mp this)) (fun j hj => ⟨0, h0 j hj, Nat.zero_le _⟩)
  exact fun k hk => ⟨by obtain ⟨d, e, hd⟩ := a2 k hk; exact ⟨d, hd, e⟩, a3 k hk⟩
theorem gvP_at (S : zS2) (c st n : Nat) {b : Nat} (h : b ∉ [74, 75, 76, 77, 78]) (j : Nat) : gvP S c st n b j = S b j := by
  simp only [List.mem_cons, List.not_mem_nil, or_false, not_or] at h
  unfold gvP
  rw [if_neg (fun q => h.1 q.1), if_neg (fun q => h.2.1 q.1), if_neg (fun q => h.2.2.1 q.1), if_neg (fun q => h.2.2.2.1 q.1), if_neg (fun q => h.2.2.2.2 q.1)]
theorem gvP_ot (S : zS2) (c st n : Nat) {d : Nat} (hd : d ≠ c) {b : Nat} (hb : b = 75 ∨ b = 76 ∨ b = 77 ∨ b = 78) : gvP S c st n b d = S b d := by
  unfold gvP
  rw [if_neg (fun q => by omega), if_neg (fun q => hd q.2), if_neg (fun q => hd q.2), if_neg (fun q => hd q.2), if_neg (fun q => hd q.2)]
theorem gvP_c (S : zS2) (c st n : Nat) : gvP S c st n 75 c = S 104 st ∧ gvP S c st n 76 c = maskP S st 20000 20999 n ∧ gvP S c st n 77 c = maskP S st 21000 21999 n ∧ gvP S c st n 78 c = maskP S st 22000 29999 n := by
  simp [gvP]
theorem gvP_w (S : zS2) (c st n : Nat) {k : Nat} (hk : k < n) : gvP S c st n 74 (30 * c + k) = S 103 (30 * st + k) := by
  unfold gvP
  rw [if_pos ⟨rfl, by omega, by omega⟩]
  congr 1; omega
theorem gvP_wo (S : zS2) (c st n : Nat) {d k : Nat} (hd : d ≠ c) (hk : k < 30) (hn : n ≤ 30) : gvP S c st n 74 (30 * d + k) = S 74 (30 * d + k) := by
  unfold gvP
  rw [if_neg (fun q => by omega), if_neg (fun q => absurd q.1 (by decide)), if_neg (fun q => absurd q.1 (by decide)), if_neg (fun q => absurd q.1 (by decide)), if_neg (fun q => absurd q.1 (by decide))]
theorem dzP_at (S : zS2) (n : Nat) {b : Nat} (h : b ≠ 79) (j : Nat) : dzP S n b j = S b j := by unfold dzP; rw [if_neg (fun q => h q.1)]
def gdF (S : zS2) (c st n : Nat) : zS2 := dpR (dzP (gvP S c st n) 12) 12
theorem gdF_at (S : zS2) (c st n : Nat) {b : Nat} (h : b ≠ 79) (j : Nat) : gdF S c st n b j = gvP S c st n b j := by unfold gdF; rw [dpR_rd _ 12 h, dzP_at _ 12 h]
theorem giveF_gd (S : zS2) (c st n : Nat) : giveF S c st n = zu (gdF S c st n) 89 c (if gdF S c st n 80 c = 0 then 1 else 0) := rfl
theorem gdF_DX {S : zS2} {c st n : Nat} (h : RI (giveF S c st n)) : DX (gdF S c st n) := by
  unfold gdF
  refine DX_fix (fun j hj => by unfold dzP; rw [if_pos ⟨rfl, hj⟩]; rfl) (fun k j hk hj hb => ?_)
  have := h.2.1 k j hk hj (by rw [giveF_gd, zu_ne _ _ _ _ (by decide)]; exact hb)
  rw [giveF_gd, zu_ne _ _ _ _ (by decide), zu_ne _ _ _ _ (by decide)] at this
  exact this
theorem mi.give {t : Nat} (ht : ta t) {μ : zMem} {σ : zS2} {π : zP2} {S : zS2} (h : mi t μ σ π S) (hR : RI S) {c st f : Nat} (hc : c < 12) (hn : stN S st ≤ 30)
    (hF : zFo μ σ π f (stw S st) (stN S st) (maskP S st 20000 20999 (stN S st)) (maskP S st 21000 21999 (stN S st)) (maskP S st 22000 29999 (stN S st))) : mi t μ σ (zup π (t + 8 + c) 1 (some f)) (gvP S c st (stN S st)) := by
  obtain ⟨g1, g2, g3, g4⟩ := gvP_c S c st (stN S st)
  have en : cdn (gvP S c st (stN S st)) c = stN S st := by unfold cdn; rw [g1]; rfl
  refine h.uf ht hc ?_ (fun b hb j => gvP_at S c st _ hb j) (fun d hd hne => ⟨?_, fun k hk => ?_, gvP_ot S c st _ hne (by omega), gvP_ot S c st _ hne (by omega), gvP_ot S c st _ hne (by omega)⟩)
  · rw [en]
    exact hF.mv zgr.rf (fun _ _ _ _ => rfl) (fun _ _ _ _ => rfl) (fun k hk => by unfold cdw stw; rw [gvP_w S c st _ hk]) g2 g3 g4
  · unfold cdn; rw [gvP_ot S c st _ hne (by omega)]
  · have := (hR.1 d hd).1.1
    unfold cdw; rw [gvP_wo S c st _ hne (by omega) hn]

set_option maxRecDepth 100000 in
set_option maxHeartbeats 4000000 in
theorem c_X6_changeCell {l : Launch} {Z : zZ} (hZ : zSt l Z) {μ : zMem} {σ : zS2} {π : zP2} {g : zG2} {t : Nat} (ht : ta t) {S : zS2} (hM : mo t μ σ π S) (hR : RI S) (hX : XI S) {sp st c k : Nat} (hsp : zSp μ σ π sp S st) (hc : c < 12) (h1 : σ sp 1 = nI c) (hk2 : k ≤ 2) (hkS : S 98 st = nI k) (hn : k = 0 → stN S st ≤ 30) (hRc : RI (setCF S c st (stN S st))) : zCt l Z mX6_changeCell 3 0 0 [.ref t, .ref sp] (zA4 μ σ π g) (fun r μ' => r = none ∧ zE0 t μ σ π g (setCF S c st (stN S st)) μ') := by
  refine zCt_of hZ mpX6_changeCell (Nat.le_of_ble_eq_true rfl) (L := [some (.ref t), some (.ref sp), none]) rfl (fun τ hY => ?_)
  have hT := hY.1
  have hB := hM.1.tb
  obtain ⟨hio, hspn, hk, hk0, _, he2, he3, he5, hfm⟩ := hsp
  have hso : sp < t ∨ t + 30 ≤ sp := hio.out ht
  rw [hkS] at hk0
  have h80 : gdF S c st (stN S st) 80 c = S 80 c := by rw [gdF_at S c st _ (by decide), gvP_at S c st _ (by decide)]
  have hkk : k = 1 ∨ k = 2 ∨ k = 0 := by omega
  rcases hkk with rfl | rfl | rfl
  · have hset : setCF S c st (stN S st) = becomeF (zu (zu (zu S 80 c 1) 81 c (S 100 st)) 89 c 0) c (S 100 st) := by
      unfold setCF; rw [hkS, if_neg (show ¬ nI 1 = 0 by decide), if_pos (show nI 1 = 1 by decide)]
    have hM1 := (hM.lk ht (o := 8) (f := 4) (n := 12) (b := 80) (k := c) (v := 1) (by decide) hc (Or.inl (by decide)) (by decide)).j81 (c := c) (v := S 100 st)
    have hM3 := hM1.ud ht (S' := zu (zu (zu S 80 c 1) 81 c (S 100 st)) 89 c 0) (hM1.1.d.no hc (fun j hj => by
      by_cases e : j = c
      · rw [e, zu_eq]; simp
      · rw [zu_n _ _ _ _ (by omega)]; simp [e])) (fun b hb j => zu_ne _ _ _ _ hb j)
    rw [zu_n σ _ _ _ (show ¬ (t = t + 8 + c ∧ 6 = 4) by omega)] at hM3
    refine J_aload_n (i := 1) hT dX6_changeCell_0 rfl rfl ?_
    refine R_getI hT fX6_104 rfl dX6_changeCell_1 hk ?_
    refine J_topil (h1) ?_
    refine J_if_lt (tgt := 19) hT dX6_changeCell_4 (by decide) (fun q => absurd q (nI_pos (by omega))) (fun _ => ?_)
    refine J_aload_n (i := 1) hT dX6_changeCell_7 rfl rfl ?_
    refine R_getI hT fX6_104 rfl dX6_changeCell_8 hk ?_
    refine J_topil (h1) ?_
    refine J_aload_n (i := 0) hT dX6_changeCell_11 rfl rfl ?_
    refine R_getP hT fX6_22 rfl dX6_changeCell_12 hB.k hB.p1 ?_
    refine R_alen hT dX6_changeCell_15 (by rw [hB.k3]; decide) hB.l3 ?_
    refine J_icmp_lt (tgt := 20) hT dX6_changeCell_16 (by decide) (fun _ => ?_) (fun q => absurd (nI_lt (a := c) (b := 12) (by omega) (by decide)) q)
    refine J_aload_n (i := 0) hT dX6_changeCell_20 rfl rfl ?_
    refine R_getP hT fX6_22 rfl dX6_changeCell_21 hB.k hB.p1 ?_
    refine J_aload_n (i := 1) hT dX6_changeCell_24 rfl rfl ?_
    refine R_getI hT fX6_104 rfl dX6_changeCell_25 hk ?_
    refine J_topil (h1) ?_
    refine R_aald1 hT dX6_changeCell_28 hB.k3 (by decide) hB.l3 (by first | exact ⟨rfl, by decide⟩ | exact zix_nI (by omega) (by decide) | assumption) (hB.pc hc) ?_
    refine S_astore2 hT dX6_changeCell_29 rfl rfl ?_
    refine J_aload_n (i := 1) hT dX6_changeCell_30 rfl rfl ?_
    refine R_getI hT fX6_91 rfl dX6_changeCell_31 hk ?_
    refine J_topil (hk0) ?_
    refine J_iconst (v := 1) hT dX6_changeCell_34 rfl ?_
    refine J_icmp_ne (tgt := 71) hT dX6_changeCell_35 (by decide) (fun q => absurd (rfl) q) (fun _ => ?_)
    refine J_aload_n (i := 2) hT dX6_changeCell_38 rfl rfl ?_
    refine J_iconst (v := 1) hT dX6_changeCell_39 rfl ?_
    refine R_putZ hT fX6_68 rfl rfl (by decide) dX6_changeCell_40 (hB.kc hc) ?_
    refine J_aload_n (i := 0) hT dX6_changeCell_43 rfl rfl ?_
    refine J_dup hT dX6_changeCell_44 rfl ?_
    refine R_getI hT fX6_45 rfl dX6_changeCell_45 hB.k ?_
    refine J_topil (zu_n _ _ _ _ (by omega)) ?_
    refine J_aload_n (i := 2) hT dX6_changeCell_48 rfl rfl ?_
    refine R_getI hT fX6_130 rfl dX6_changeCell_49 (hB.kc hc) ?_
    refine J_topil ((zu_n _ _ _ _ (by omega)).trans (hM.1.nc hc)) ?_
    refine R_callS1 hY dX6_changeCell_52 mfX8_bit mtX8_bit kX6_83 (c_X8_bit hZ) rfl (by decide) rfl rfl (Nat.le_of_ble_eq_true rfl) (Nat.le_refl _) (Nat.le_refl _) ?_
    refine J_iconst (v := -1) hT dX6_changeCell_55 rfl ?_
    refine J_ixor hT dX6_changeCell_56 ?_
    refine J_iand hT dX6_changeCell_57 ?_
    refine R_putI hT fX6_45 rfl rfl dX6_changeCell_58 hB.k ?_
    refine J_aload_n (i := 0) hT dX6_changeCell_61 rfl rfl ?_
    refine J_aload_n (i := 2) hT dX6_changeCell_62 rfl rfl ?_
    refine J_aload_n (i := 1) hT dX6_changeCell_63 rfl rfl ?_
    refine R_getI hT fX6_124 rfl dX6_changeCell_64 hk ?_
    refine J_topil (((zu_n _ _ _ _ (by omega)).trans (zu_n _ _ _ _ (by omega))).trans he2) ?_
    refine J_callV (ci := 6) hY dX6_changeCell_67 mfX6_setValue miX6_setValue msX6_setValue kX6_133 ⟨by decide, rfl⟩ hB.k (c_X6_setValue hZ ht hM3 hc) rfl (by decide) rfl rfl (Nat.le_of_ble_eq_true rfl) (Nat.le_refl _) (Nat.le_refl _) (fun r1 μ1 hq1 => ?_)
    obtain ⟨rfl, hq2⟩ := hq1
    exact J_vret hT dX6_changeCell_70 rfl (⟨rfl, by rw [hset]; exact (hq2.mv (zfT.tr (zfT_u (zmu_c hc)) (zfT_u (Or.inl rfl))) rfl (zch.tr (zch_u (by decide)) (zch_u (by decide)))).e0⟩) (Nat.le_refl _) (Nat.le_refl _)
  · have hset : setCF S c st (stN S st) = zu (zu S 80 c 0) 89 c 1 := by
      unfold setCF; rw [hkS, if_neg (show ¬ nI 2 = 0 by decide), if_neg (show ¬ nI 2 = 1 by decide)]
    have hM1 := hM.lk ht (o := 8) (f := 4) (n := 12) (b := 80) (k := c) (v := 0) (by decide) hc (Or.inl (by decide)) (by decide)
    have hM2 := hM1.ud ht (S' := zu (zu S 80 c 0) 89 c 1) (hM1.1.d.or hc (fun j hj => by
      by_cases e : j = c
      · rw [e, zu_eq]; simp
      · rw [zu_n _ _ _ _ (by omega)]; simp [e])) (fun b hb j => zu_ne _ _ _ _ hb j)
    rw [zu_n σ _ _ _ (show ¬ (t = t + 8 + c ∧ 6 = 4) by omega)] at hM2
    refine J_aload_n (i := 1) hT dX6_changeCell_0 rfl rfl ?_
    refine R_getI hT fX6_104 rfl dX6_changeCell_1 hk ?_
    refine J_topil (h1) ?_
    refine J_if_lt (tgt := 19) hT dX6_changeCell_4 (by decide) (fun q => absurd q (nI_pos (by omega))) (fun _ => ?_)
    refine J_aload_n (i := 1) hT dX6_changeCell_7 rfl rfl ?_
    refine R_getI hT fX6_104 rfl dX6_changeCell_8 hk ?_
    refine J_topil (h1) ?_
    refine J_aload_n (i := 0) hT dX6_changeCell_11 rfl rfl ?_
    refine R_getP hT fX6_22 rfl dX6_changeCell_12 hB.k hB.p1 ?_
    refine R_alen hT dX6_changeCell_15 (by rw [hB.k3]; decide) hB.l3 ?_
    refine J_icmp_lt (tgt := 20) hT dX6_changeCell_16 (by decide) (fun _ => ?_) (fun q => absurd (nI_lt (a := c) (b := 12) (by omega) (by decide)) q)
    refine J_aload_n (i := 0) hT dX6_changeCell_20 rfl rfl ?_
    refine R_getP hT fX6_22 rfl dX6_changeCell_21 hB.k hB.p1 ?_
    refine J_aload_n (i := 1) hT dX6_changeCell_24 rfl rfl ?_
    refine R_getI hT fX6_104 rfl dX6_changeCell_25 hk ?_
    refine J_topil (h1) ?_
    refine R_aald1 hT dX6_changeCell_28 hB.k3 (by decide) hB.l3 (by first | exact ⟨rfl, by decide⟩ | exact zix_nI (by omega) (by decide) | assumption) (hB.pc hc) ?_
    refine S_astore2 hT dX6_changeCell_29 rfl rfl ?_
    refine J_aload_n (i := 1) hT dX6_changeCell_30 rfl rfl ?_
    refine R_getI hT fX6_91 rfl dX6_changeCell_31 hk ?_
    refine J_topil (hk0) ?_
    refine J_iconst (v := 1) hT dX6_changeCell_34 rfl ?_
    refine J_icmp_ne (tgt := 71) hT dX6_changeCell_35 (by decide) (fun _ => ?_) (fun q => absurd q ((by decide)))
    refine J_aload_n (i := 1) hT dX6_changeCell_71 rfl rfl ?_
    refine R_getI hT fX6_91 rfl dX6_changeCell_72 hk ?_
    refine J_topil (hk0) ?_
    refine J_iconst (v := 2) hT dX6_changeCell_75 rfl ?_
    refine J_icmp_ne (tgt := 87) hT dX6_changeCell_76 (by decide) (fun q => absurd (rfl) q) (fun _ => ?_)
    refine J_aload_n (i := 2) hT dX6_changeCell_79 rfl rfl ?_
    refine J_iconst (v := 0) hT dX6_changeCell_80 rfl ?_
    refine R_putZ hT fX6_68 rfl rfl (by decide) dX6_changeCell_81 (hB.kc hc) ?_
    refine J_goto (tgt := 106) hT dX6_changeCell_84 (by decide) ?_
    refine J_aload_n (i := 2) hT dX6_changeCell_106 rfl rfl ?_
    refine R_getI hT fX6_68 rfl dX6_changeCell_107 (hB.kc hc) ?_
    refine J_topil (zu_eq _ _ _ _) ?_
    refine J_if_ne (tgt := 129) hT dX6_changeCell_110 (by decide) (fun q => absurd (rfl) q) (fun _ => ?_)
    refine J_aload_n (i := 0) hT dX6_changeCell_113 rfl rfl ?_
    refine J_dup hT dX6_changeCell_114 rfl ?_
    refine R_getI hT fX6_45 rfl dX6_changeCell_115 hB.k ?_
    refine J_topil (zu_n _ _ _ _ (by omega)) ?_
    refine J_aload_n (i := 2) hT dX6_changeCell_118 rfl rfl ?_
    refine R_getI hT fX6_130 rfl dX6_changeCell_119 (hB.kc hc) ?_
    refine J_topil ((zu_n _ _ _ _ (by omega)).trans (hM.1.nc hc)) ?_
    refine R_callS1 hY dX6_changeCell_122 mfX8_bit mtX8_bit kX6_83 (c_X8_bit hZ) rfl (by decide) rfl rfl (Nat.le_of_ble_eq_true rfl) (Nat.le_refl _) (Nat.le_refl _) ?_
    refine J_ior hT dX6_changeCell_125 ?_
    refine R_putI hT fX6_45 rfl rfl dX6_changeCell_126 hB.k ?_
    exact J_vret hT dX6_changeCell_129 rfl (⟨rfl, by rw [hset]; exact ⟨_, π, rfl, hM2, zfT.tr (zfT_u (zmu_c hc)) (zfT_u (Or.inl rfl)), zfP.rf⟩⟩) (Nat.le_refl _) (Nat.le_refl _)
  · have hset : setCF S c st (stN S st) = giveF S c st (stN S st) := by
      unfold setCF; rw [hkS, if_pos (show nI 0 = 0 by decide)]
    rw [hset] at hRc
    have hRg := hRc
    obtain ⟨f, hf, hF⟩ := hfm hkS
    have hM1 := hM.1.give ht hR hc (hn rfl) hF
    refine J_aload_n (i := 1) hT dX6_changeCell_0 rfl rfl ?_
    refine R_getI hT fX6_104 rfl dX6_changeCell_1 hk ?_
    refine J_topil (h1) ?_
    refine J_if_lt (tgt := 19) hT dX6_changeCell_4 (by decide) (fun q => absurd q (nI_pos (by omega))) (fun _ => ?_)
    refine J_aload_n (i := 1) hT dX6_changeCell_7 rfl rfl ?_
    refine R_getI hT fX6_104 rfl dX6_changeCell_8 hk ?_
    refine J_topil (h1) ?_
    refine J_aload_n (i := 0) hT dX6_changeCell_11 rfl rfl ?_
    refine R_getP hT fX6_22 rfl dX6_changeCell_12 hB.k hB.p1 ?_
    refine R_alen hT dX6_changeCell_15 (by rw [hB.k3]; decide) hB.l3 ?_
    refine J_icmp_lt (tgt := 20) hT dX6_changeCell_16 (by decide) (fun _ => ?_) (fun q => absurd (nI_lt (a := c) (b := 12) (by omega) (by decide)) q)
    refine J_aload_n (i := 0) hT dX6_changeCell_20 rfl rfl ?_
    refine R_getP hT fX6_22 rfl dX6_changeCell_21 hB.k hB.p1 ?_
    refine J_aload_n (i := 1) hT dX6_changeCell_24 rfl rfl ?_
    refine R_getI hT fX6_104 rfl dX6_changeCell_25 hk ?_
    refine J_topil (h1) ?_
    refine R_aald1 hT dX6_changeCell_28 hB.k3 (by decide) hB.l3 (by first | exact ⟨rfl, by decide⟩ | exact zix_nI (by omega) (by decide) | assumption) (hB.pc hc) ?_
    refine S_astore2 hT dX6_changeCell_29 rfl rfl ?_
    refine J_aload_n (i := 1) hT dX6_changeCell_30 rfl rfl ?_
    refine R_getI hT fX6_91 rfl dX6_changeCell_31 hk ?_
    refine J_topil (hk0) ?_
    refine J_iconst (v := 1) hT dX6_changeCell_34 rfl ?_
    refine J_icmp_ne (tgt := 71) hT dX6_changeCell_35 (by decide) (fun _ => ?_) (fun q => absurd q ((by decide)))
    refine J_aload_n (i := 1) hT dX6_changeCell_71 rfl rfl ?_
    refine R_getI hT fX6_91 rfl dX6_changeCell_72 hk ?_
    refine J_topil (hk0) ?_
    refine J_iconst (v := 2) hT dX6_changeCell_75 rfl ?_
    refine J_icmp_ne (tgt := 87) hT dX6_changeCell_76 (by decide) (fun _ => ?_) (fun q => absurd q ((by decide)))
    refine J_aload_n (i := 1) hT dX6_changeCell_87 rfl rfl ?_
    refine R_getP hT fX6_137 rfl dX6_changeCell_88 hk hf ?_
    refine J_ifnull hT dX6_changeCell_91 ?_
    refine J_aload_n (i := 2) hT dX6_changeCell_94 rfl rfl ?_
    refine J_aload_n (i := 1) hT dX6_changeCell_95 rfl rfl ?_
    refine R_getP hT fX6_137 rfl dX6_changeCell_96 hk hf ?_
    refine R_putP hT fX6_62 rfl rfl dX6_changeCell_99 (hB.kc hc) ?_
    refine J_aload_n (i := 0) hT dX6_changeCell_102 rfl rfl ?_
    refine J_callV (ci := 6) hY dX6_changeCell_103 mfX6_arrange miX6_arrange msX6_arrange kX6_79 ⟨by decide, rfl⟩ hB.k (c_X6_arrange hZ ht hM1 (S' := gdF S c st (stN S st)) (fun b hb j => gdF_at S c st _ hb j) (gdF_DX hRg)) rfl (by decide) rfl rfl (Nat.le_of_ble_eq_true rfl) (Nat.le_refl _) (Nat.le_refl _) (fun r1 μ1 hq1 => ?_)
    obtain ⟨rfl, σ2, π2, rfl, hM2, hf2, hp2⟩ := hq1
    refine J_aload_n (i := 2) hT dX6_changeCell_106 rfl rfl ?_
    refine R_getI hT fX6_68 rfl dX6_changeCell_107 (hM2.1.tb.kc hc) ?_
    refine J_topil ((hM2.1.held hc).trans h80) ?_
    refine J_if_ne (tgt := 129) hT dX6_changeCell_110 (by decide) (fun q110 => ?_) (fun q110 => ?_)
    · exact J_vret hT dX6_changeCell_129 rfl ⟨rfl, by
            rw [hset, giveF_gd, if_neg (by rw [h80]; exact q110), zu_self (by rw [gdF_at S c st _ (by decide), gvP_at S c st _ (by decide)]; exact (hX.2.2.1 c hc q110).2)]
            exact ⟨σ2, π2, rfl, hM2, hf2, (zfP_u (Or.inr ⟨by omega, by omega, rfl⟩)).tr hp2⟩⟩ (Nat.le_refl _) (Nat.le_refl _)
    · refine J_aload_n (i := 0) hT dX6_changeCell_113 rfl rfl ?_
      refine J_dup hT dX6_changeCell_114 rfl ?_
      refine R_getI hT fX6_45 rfl dX6_changeCell_115 hM2.1.tb.k ?_
      refine J_topil (rfl) ?_
      refine J_aload_n (i := 2) hT dX6_changeCell_118 rfl rfl ?_
      refine R_getI hT fX6_130 rfl dX6_changeCell_119 (hM2.1.tb.kc hc) ?_
      refine J_topil (hM2.1.nc hc) ?_
      refine R_callS1 hY dX6_changeCell_122 mfX8_bit mtX8_bit kX6_83 (c_X8_bit hZ) rfl (by decide) rfl rfl (Nat.le_of_ble_eq_true rfl) (Nat.le_refl _) (Nat.le_refl _) ?_
      refine J_ior hT dX6_changeCell_125 ?_
      refine R_putI hT fX6_45 rfl rfl dX6_changeCell_126 hM2.1.tb.k ?_
      exact J_vret hT dX6_changeCell_129 rfl (⟨rfl, by
            rw [hset, giveF_gd, if_pos (by rw [h80]; exact q110)]
            exact ⟨_, π2, rfl, hM2.ud ht (hM2.1.d.or hc (fun j hj => by
              by_cases e : j = c
              · rw [e, zu_eq]; simp
              · rw [zu_n _ _ _ _ (by omega)]; simp [e])) (fun b hb j => zu_ne _ _ _ _ hb j), hf2.tr (zfT_u (Or.inl rfl)), (zfP_u (Or.inr ⟨by omega, by omega, rfl⟩)).tr hp2⟩⟩) (Nat.le_refl _) (Nat.le_refl _)


