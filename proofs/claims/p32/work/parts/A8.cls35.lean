theorem figB_ne {a : Int32} (h : ¬ figB a = true) : ∀ n, 48 ≤ n → n ≤ 57 → a ≠ nI n := fun n h1 h2 e => h (by
  rw [e]
  have : ∀ k, k < 10 → figB (nI (48 + k)) = true := by decide +kernel
  have := this (n - 48) (by omega)
  rw [show 48 + (n - 48) = n by omega] at this
  exact this)
theorem part_off {x : Int32} (h1 : x ≠ 45) (h2 : x ≠ 40) (h3 : ¬ namB x = true) (h4 : ¬ funB x = true) : Op.lookupswitch.offset [(40, 102), (45, 76), (99, 111), (105, 196), (108, 133), (109, 144), (110, 170), (114, 122)] 222 x.toInt = 222 := by
  have n : ∀ (a : Int32) (k : Int), a.toInt = k → x ≠ a → ¬ k = x.toInt := fun a k e h q => h (Int32.toInt_inj.mp (e.trans q).symm)
  simp only [namB, funB, Bool.or_eq_true, decide_eq_true_eq, not_or] at h3 h4
  simp only [Op.lookupswitch.offset]
  rw [if_neg (n 40 40 rfl h2), if_neg (n 45 45 rfl h1), if_neg (n 99 99 rfl h3.1.1), if_neg (n 105 105 rfl h4.2), if_neg (n 108 108 rfl h3.2), if_neg (n 109 109 rfl h4.1.1), if_neg (n 110 110 rfl h4.1.2), if_neg (n 114 114 rfl h3.1.2)]
theorem namB_c {a : Int32} (h : namB a = true) : a = 99 ∨ a = 114 ∨ a = 108 := by
  simp only [namB, Bool.or_eq_true, decide_eq_true_eq] at h
  rcases h with (h | h) | h
  · exact Or.inl h
  · exact Or.inr (Or.inl h)
  · exact Or.inr (Or.inr h)
theorem funB_c {a : Int32} (h : funB a = true) : a = 109 ∨ a = 110 ∨ a = 105 := by
  simp only [funB, Bool.or_eq_true, decide_eq_true_eq] at h
  rcases h with (h | h) | h
  · exact Or.inl h
  · exact Or.inr (Or.inl h)
  · exact Or.inr (Or.inr h)
/-- one level of the descent -/
def dPs (S : zS2) (L : Nat) (P F : Nat → List Nat → zDR) (p : Nat) (ks : List Nat) : zDR := if figB (ltr S L p) = true then nuR S L p ks else if ltr S L p = 45 then bdR (P (p + 1) ks) (fun q k => .inr (q, 30001 :: k)) else if ltr S L p = 40 then brR S L F 1 p ks else if namB (ltr S L p) = true then nmR S L p ks else if funB (ltr S L p) = true then bdR (brR S L F (if ltr S L p = 105 then 3 else 2) (p + 1) ks) (fun q k => .inr (q, (30000 + fnD (ltr S L p)) :: k)) else .inl p
theorem dP_s (S : zS2) (L f p : Nat) (ks : List Nat) : dP S L (f + 1) p ks = dPs S L (dP S L f) (foR S L (smR S L (prR S L (dP S L f)))) p ks := rfl
set_option maxRecDepth 100000 in
set_option maxHeartbeats 4000000 in
theorem c_X2_passPart0 {l : Launch} {Z : zZ} (hZ : zSt l Z) {μ : zMem} {σ : zS2} {π : zP2} {g : zG2} {S : zS2} {L : Nat} (hH : zPh μ π) (hX : zTx S L σ) {p b : Nat} {ks : List Nat} (hP : zPp L p ks b σ) : zCt l Z mX2_passPart 3 0 0 [.ref 3, .int (nI 31)] (zA4 μ σ π g) (zPq L b μ σ π g (dP S L 0 p ks)) := by
  refine zCt_of hZ mpX2_passPart (Nat.le_of_ble_eq_true rfl) (L := [some (.ref 3), some (.int (nI 31)), none]) rfl (fun τ hY => ?_)
  have hT := hY.1
  have h30 := hX.2.1
  obtain ⟨h2, h3, h4, h5, h6, h7, h8⟩ := id hP
  refine J_aload_n (i := 0) hT dX2_passPart_0 rfl rfl ?_
  refine R_getI hT fX2_25 rfl dX2_passPart_1 hH.k3 ?_
  refine J_if_ne (tgt := 13) hT dX2_passPart_4 (by decide) (fun q => absurd (h5) q) (fun _ => ?_)
  refine J_iload_n (i := 1) hT dX2_passPart_7 rfl rfl ?_
  refine J_bipush (v := 30) hT dX2_passPart_8 rfl ?_
  refine J_icmp_le (tgt := 19) hT dX2_passPart_10 (by decide) (fun q => absurd q ((by decide))) (fun _ => ?_)
  refine J_aload_n (i := 0) hT dX2_passPart_13 rfl rfl ?_
  refine J_iconst (v := 1) hT dX2_passPart_14 rfl ?_
  refine R_putZ hT fX2_25 rfl rfl (by decide) dX2_passPart_15 hH.k3 ?_
  exact J_vret hT dX2_passPart_18 rfl (⟨rfl, _, rfl, zPf.u3 _ _ _, zPR.stuck h8 h4⟩) (Nat.le_refl _) (Nat.le_refl _)

set_option maxRecDepth 100000 in
set_option maxHeartbeats 4000000 in
theorem c_X2_passPart {l : Launch} {Z : zZ} (hZ : zSt l Z) {μ : zMem} {σ : zS2} {π : zP2} {g : zG2} {S : zS2} {L : Nat} (hH : zPh μ π) (hX : zTx S L σ) {p b : Nat} {ks : List Nat} (hP : zPp L p ks b σ) {d d' : Int32} (hd : d + 1 = d') (hd30 : d ≤ 30) {K K1 : Nat} (hK : 3 ≤ K) (hK1 : K1 ≤ K) {P F : Nat → List Nat → zDR} (hPt : zPk l Z μ π g S L mX2_passPart K1 [.ref 3, .int d'] P) (hBr : ∀ N, 1 ≤ N → N ≤ 3 → zPk l Z μ π g S L mX2_passBrackets K [.ref 3, .int d, .int (nI N)] (brR S L F N)) : zCt l Z mX2_passPart (K + 1) 0 0 [.ref 3, .int d] (zA4 μ σ π g) (zPq L b μ σ π g (dPs S L P F p ks)) := by
  refine zCt_of hZ mpX2_passPart (Nat.le_of_ble_eq_true rfl) (L := [some (.ref 3), some (.int d), none]) rfl (fun τ hY => ?_)
  have hT := hY.1
  have h30 := hX.2.1
  obtain ⟨h2, h3, h4, h5, h6, h7, h8⟩ := id hP
  obtain ⟨RES, hRES⟩ : ∃ x, x = dPs S L P F p ks := ⟨_, rfl⟩
  rw [← hRES]
  unfold dPs at hRES
  by_cases hfg : figB (ltr S L p) = true
  · rw [if_pos hfg] at hRES
    obtain ⟨hl, hg⟩ := figB_in hfg
    rw [hRES]
    refine J_aload_n (i := 0) hT dX2_passPart_0 rfl rfl ?_
    refine R_getI hT fX2_25 rfl dX2_passPart_1 hH.k3 ?_
    refine J_if_ne (tgt := 13) hT dX2_passPart_4 (by decide) (fun q => absurd (h5) q) (fun _ => ?_)
    refine J_iload_n (i := 1) hT dX2_passPart_7 rfl rfl ?_
    refine J_bipush (v := 30) hT dX2_passPart_8 rfl ?_
    refine J_icmp_le (tgt := 19) hT dX2_passPart_10 (by decide) (fun _ => ?_) (fun q => absurd (hd30) q)
    refine J_aload_n (i := 0) hT dX2_passPart_19 rfl rfl ?_
    refine R_getP hT fX2_29 rfl dX2_passPart_20 hH.k3 hH.q30 ?_
    refine J_aload_n (i := 0) hT dX2_passPart_23 rfl rfl ?_
    refine R_getI hT fX2_22 rfl dX2_passPart_24 hH.k3 ?_
    refine J_topil (h4) ?_
    refine R_callV1 (ci := 7) hY dX2_passPart_27 mfX7_letterAt miX7_letterAt msX7_letterAt kX2_62 ⟨by decide, rfl⟩ hH.k1 (c_X7_letterAt hZ hH hX (p := p) (by omega)) rfl (by omega) rfl rfl (Nat.le_of_ble_eq_true rfl) (Nat.le_refl _) (Nat.le_refl _) ?_
    refine S_istore2 hT dX2_passPart_30 rfl rfl ?_
    refine J_iload_n (i := 2) hT dX2_passPart_31 rfl rfl ?_
    refine R_callS1 hY dX2_passPart_32 mfX8_isFigure mtX8_isFigure kX2_80 (c_X8_isFigure hZ) rfl (Nat.succ_pos _) rfl rfl (Nat.le_of_ble_eq_true rfl) (Nat.le_refl _) (Nat.le_refl _) ?_
    refine J_if_eq (tgt := 43) hT dX2_passPart_35 (by decide) (fun q => absurd q ((by rw [hfg]; decide))) (fun _ => ?_)
    refine J_aload_n (i := 0) hT dX2_passPart_38 rfl rfl ?_
    refine J_callV (ci := 2) hY dX2_passPart_39 mfX2_passNumber miX2_passNumber msX2_passNumber kX2_84 ⟨by decide, rfl⟩ hH.k3 (c_X2_passNumber hZ hH hX hP hl hg) rfl (by omega) rfl rfl (Nat.le_of_ble_eq_true rfl) (Nat.le_refl _) (Nat.le_refl _) (fun r1 μ1 hq1 => ?_)
    obtain ⟨rfl, σ1, rfl, hf1, hR1⟩ := hq1
    show zJ _ _ _ _ [] _ _ _
    exact J_vret hT dX2_passPart_42 rfl (⟨rfl, _, rfl, hf1, hR1⟩) (Nat.le_refl _) (Nat.le_refl _)
  · rw [if_neg hfg] at hRES
    have hfz : zbi (figB (ltr S L p)) = 0 := by rw [Bool.eq_false_iff.mpr hfg]; rfl
    by_cases hs : ltr S L p = 45
    · rw [if_pos hs] at hRES
      have hlt := ltr_ne (S := S) (L := L) (p := p) (by rw [hs]; decide)
      have hgo := hP.go hlt
      refine J_aload_n (i := 0) hT dX2_passPart_0 rfl rfl ?_
      refine R_getI hT fX2_25 rfl dX2_passPart_1 hH.k3 ?_
      refine J_if_ne (tgt := 13) hT dX2_passPart_4 (by decide) (fun q => absurd (h5) q) (fun _ => ?_)
      refine J_iload_n (i := 1) hT dX2_passPart_7 rfl rfl ?_
      refine J_bipush (v := 30) hT dX2_passPart_8 rfl ?_
      refine J_icmp_le (tgt := 19) hT dX2_passPart_10 (by decide) (fun _ => ?_) (fun q => absurd (hd30) q)
      refine J_aload_n (i := 0) hT dX2_passPart_19 rfl rfl ?_
      refine R_getP hT fX2_29 rfl dX2_passPart_20 hH.k3 hH.q30 ?_
      refine J_aload_n (i := 0) hT dX2_passPart_23 rfl rfl ?_
      refine R_getI hT fX2_22 rfl dX2_passPart_24 hH.k3 ?_
      refine J_topil (h4) ?_
      refine R_callV1 (ci := 7) hY dX2_passPart_27 mfX7_letterAt miX7_letterAt msX7_letterAt kX2_62 ⟨by decide, rfl⟩ hH.k1 (c_X7_letterAt hZ hH hX (p := p) (by omega)) rfl (by omega) rfl rfl (Nat.le_of_ble_eq_true rfl) (Nat.le_refl _) (Nat.le_refl _) ?_
      refine S_istore2 hT dX2_passPart_30 rfl rfl ?_
      refine J_iload_n (i := 2) hT dX2_passPart_31 rfl rfl ?_
      refine R_callS1 hY dX2_passPart_32 mfX8_isFigure mtX8_isFigure kX2_80 (c_X8_isFigure hZ) rfl (Nat.succ_pos _) rfl rfl (Nat.le_of_ble_eq_true rfl) (Nat.le_refl _) (Nat.le_refl _) ?_
      refine J_if_eq (tgt := 43) hT dX2_passPart_35 (by decide) (fun _ => ?_) (fun q => absurd (hfz) q)
      refine J_iload_n (i := 2) hT dX2_passPart_43 rfl rfl ?_
      refine J_topil (hs) ?_
      refine J_lookup (tgt := 120) hT dX2_passPart_44 (by decide) (off := 76) (by decide) (by decide) ?_
      refine J_aload_n (i := 0) hT dX2_passPart_120 rfl rfl ?_
      refine J_dup hT dX2_passPart_121 rfl ?_
      refine R_getI hT fX2_22 rfl dX2_passPart_122 hH.k3 ?_
      refine J_topil (h4) ?_
      refine J_iconst (v := 1) hT dX2_passPart_125 rfl ?_
      refine J_iadd hT dX2_passPart_126 ?_
      refine J_topil ((nI_1 _)) ?_
      refine R_putI hT fX2_22 rfl rfl dX2_passPart_127 hH.k3 ?_
      refine J_aload_n (i := 0) hT dX2_passPart_130 rfl rfl ?_
      refine J_iload_n (i := 1) hT dX2_passPart_131 rfl rfl ?_
      refine J_iconst (v := 1) hT dX2_passPart_132 rfl ?_
      refine J_iadd hT dX2_passPart_133 ?_
      refine J_topil (hd) ?_
      refine J_callV (ci := 2) hY dX2_passPart_134 mfX2_passPart miX2_passPart msX2_passPart kX2_77 ⟨by decide, rfl⟩ hH.k3 (hPt _ (p + 1) (b + 1) ks (hX.mv (zPf.u3 σ 4 (nI (p + 1)))) hgo) rfl (by omega) rfl rfl (Nat.le_of_ble_eq_true rfl) (Nat.le_refl _) (Nat.le_refl _) (fun r1 μ1 hq1 => ?_)
      obtain ⟨rfl, σ1, rfl, hf1, hR1⟩ := hq1
      show zJ _ _ _ _ [] _ _ _
      have hfg2 := zPf.u3 σ 4 (nI (p + 1))
      cases hXX : P (p + 1) ks with
      | inl q =>
        rw [hXX] at hR1 hRES
        have hb2 : RES = .inl q := hRES
        obtain ⟨z1, z2, z3⟩ := hR1
        refine J_aload_n (i := 0) hT dX2_passPart_137 rfl rfl ?_
        refine J_iconst (v := 4) hT dX2_passPart_138 rfl ?_
        refine J_iconst (v := 0) hT dX2_passPart_139 rfl ?_
        refine R_callV0 (ci := 2) hY dX2_passPart_140 mfX2_write miX2_write msX2_write kX2_70 ⟨by decide, rfl⟩ hH.k3 (c_X2_writeS hZ hH (hX.mv (hfg2.tr hf1)) (by rw [z3]; decide)) rfl (by omega) rfl rfl (Nat.le_of_ble_eq_true rfl) (Nat.le_refl _) (Nat.le_refl _) ?_
        refine J_goto (tgt := 271) hT dX2_passPart_143 (by decide) ?_
        exact J_vret hT dX2_passPart_271 rfl (⟨rfl, _, rfl, hfg2.tr hf1, by rw [hb2]; exact ⟨z1, z2, z3⟩⟩) (Nat.le_refl _) (Nat.le_refl _)
      | inr s =>
        obtain ⟨p2, k2⟩ := s
        rw [hXX] at hR1 hRES
        have hb2 : RES = .inr (p2, 30001 :: k2) := hRES
        have hR2' : zPp L p2 k2 (b + 1) σ1 := hR1
        obtain ⟨z2, z3, z4, z5, z6, z7, z8⟩ := id hR2'
        have htok := enc_d 1 (by decide) (by decide)
        have hwr := hR2'.wr (x := 30001) htok.2
        refine J_aload_n (i := 0) hT dX2_passPart_137 rfl rfl ?_
        refine J_iconst (v := 4) hT dX2_passPart_138 rfl ?_
        refine J_iconst (v := 0) hT dX2_passPart_139 rfl ?_
        refine R_callV0 (ci := 2) hY dX2_passPart_140 mfX2_write miX2_write msX2_write kX2_70 ⟨by decide, rfl⟩ hH.k3 (c_X2_write hZ hH (hX.mv (hfg2.tr hf1)) (ks := k2) z2 z5 (by omega)) rfl (by omega) rfl rfl (Nat.le_of_ble_eq_true rfl) (Nat.le_refl _) (Nat.le_refl _) ?_
        refine J_goto (tgt := 271) hT dX2_passPart_143 (by decide) ?_
        refine J_mu (congrArg (fun x => zA4 μ (zu (zu σ1 4 k2.length x) 3 2 (nI (k2.length + 1))) π g) htok.1) ?_
        exact J_vret hT dX2_passPart_271 rfl (⟨rfl, _, rfl, (hfg2.tr hf1).tr ((zPf.u4 _ _ _).tr (zPf.u3 _ _ _)), by rw [hb2]; exact hwr⟩) (Nat.le_refl _) (Nat.le_refl _)
    · rw [if_neg hs] at hRES
      by_cases hb : ltr S L p = 40
      · rw [if_pos hb] at hRES
        rw [hRES]
        refine J_aload_n (i := 0) hT dX2_passPart_0 rfl rfl ?_
        refine R_getI hT fX2_25 rfl dX2_passPart_1 hH.k3 ?_
        refine J_if_ne (tgt := 13) hT dX2_passPart_4 (by decide) (fun q => absurd (h5) q) (fun _ => ?_)
        refine J_iload_n (i := 1) hT dX2_passPart_7 rfl rfl ?_
        refine J_bipush (v := 30) hT dX2_passPart_8 rfl ?_
        refine J_icmp_le (tgt := 19) hT dX2_passPart_10 (by decide) (fun _ => ?_) (fun q => absurd (hd30) q)
        refine J_aload_n (i := 0) hT dX2_passPart_19 rfl rfl ?_
        refine R_getP hT fX2_29 rfl dX2_passPart_20 hH.k3 hH.q30 ?_
        refine J_aload_n (i := 0) hT dX2_passPart_23 rfl rfl ?_
        refine R_getI hT fX2_22 rfl dX2_passPart_24 hH.k3 ?_
        refine J_topil (h4) ?_
        refine R_callV1 (ci := 7) hY dX2_passPart_27 mfX7_letterAt miX7_letterAt msX7_letterAt kX2_62 ⟨by decide, rfl⟩ hH.k1 (c_X7_letterAt hZ hH hX (p := p) (by omega)) rfl (by omega) rfl rfl (Nat.le_of_ble_eq_true rfl) (Nat.le_refl _) (Nat.le_refl _) ?_
        refine S_istore2 hT dX2_passPart_30 rfl rfl ?_
        refine J_iload_n (i := 2) hT dX2_passPart_31 rfl rfl ?_
        refine R_callS1 hY dX2_passPart_32 mfX8_isFigure mtX8_isFigure kX2_80 (c_X8_isFigure hZ) rfl (Nat.succ_pos _) rfl rfl (Nat.le_of_ble_eq_true rfl) (Nat.le_refl _) (Nat.le_refl _) ?_
        refine J_if_eq (tgt := 43) hT dX2_passPart_35 (by decide) (fun _ => ?_) (fun q => absurd (hfz) q)
        refine J_iload_n (i := 2) hT dX2_passPart_43 rfl rfl ?_
        refine J_topil (hb) ?_
        refine J_lookup (tgt := 146) hT dX2_passPart_44 (by decide) (off := 102) (by decide) (by decide) ?_
        refine J_aload_n (i := 0) hT dX2_passPart_146 rfl rfl ?_
        refine J_iload_n (i := 1) hT dX2_passPart_147 rfl rfl ?_
        refine J_iconst (v := 1) hT dX2_passPart_148 rfl ?_
        refine J_callV (ci := 2) hY dX2_passPart_149 mfX2_passBrackets miX2_passBrackets msX2_passBrackets kX2_87 ⟨by decide, rfl⟩ hH.k3 (hBr 1 (by decide) (by decide) σ p b ks hX hP) rfl (by omega) rfl rfl (Nat.le_of_ble_eq_true rfl) (Nat.le_refl _) (Nat.le_refl _) (fun r1 μ1 hq1 => ?_)
        obtain ⟨rfl, σ1, rfl, hf1, hR1⟩ := hq1
        show zJ _ _ _ _ [] _ _ _
        refine J_goto (tgt := 271) hT dX2_passPart_152 (by decide) ?_
        exact J_vret hT dX2_passPart_271 rfl (⟨rfl, _, rfl, hf1, hR1⟩) (Nat.le_refl _) (Nat.le_refl _)
      · rw [if_neg hb] at hRES
        by_cases hn : namB (ltr S L p) = true
        · rw [if_pos hn] at hRES
          have hlt := ltr_ne (S := S) (L := L) (p := p) (fun q => by rw [q] at hn; exact absurd hn (by decide))
          have hlS := ltr_in (S := S) hlt
          rw [hRES]
          rcases namB_c hn with hz | hz | hz
          · have hz2 := hlS.symm.trans hz
            refine J_aload_n (i := 0) hT dX2_passPart_0 rfl rfl ?_
            refine R_getI hT fX2_25 rfl dX2_passPart_1 hH.k3 ?_
            refine J_if_ne (tgt := 13) hT dX2_passPart_4 (by decide) (fun q => absurd (h5) q) (fun _ => ?_)
            refine J_iload_n (i := 1) hT dX2_passPart_7 rfl rfl ?_
            refine J_bipush (v := 30) hT dX2_passPart_8 rfl ?_
            refine J_icmp_le (tgt := 19) hT dX2_passPart_10 (by decide) (fun _ => ?_) (fun q => absurd (hd30) q)
            refine J_aload_n (i := 0) hT dX2_passPart_19 rfl rfl ?_
            refine R_getP hT fX2_29 rfl dX2_passPart_20 hH.k3 hH.q30 ?_
            refine J_aload_n (i := 0) hT dX2_passPart_23 rfl rfl ?_
            refine R_getI hT fX2_22 rfl dX2_passPart_24 hH.k3 ?_
            refine J_topil (h4) ?_
            refine R_callV1 (ci := 7) hY dX2_passPart_27 mfX7_letterAt miX7_letterAt msX7_letterAt kX2_62 ⟨by decide, rfl⟩ hH.k1 (c_X7_letterAt hZ hH hX (p := p) (by omega)) rfl (by omega) rfl rfl (Nat.le_of_ble_eq_true rfl) (Nat.le_refl _) (Nat.le_refl _) ?_
            refine S_istore2 hT dX2_passPart_30 rfl rfl ?_
            refine J_iload_n (i := 2) hT dX2_passPart_31 rfl rfl ?_
            refine R_callS1 hY dX2_passPart_32 mfX8_isFigure mtX8_isFigure kX2_80 (c_X8_isFigure hZ) rfl (Nat.succ_pos _) rfl rfl (Nat.le_of_ble_eq_true rfl) (Nat.le_refl _) (Nat.le_refl _) ?_
            refine J_if_eq (tgt := 43) hT dX2_passPart_35 (by decide) (fun _ => ?_) (fun q => absurd (hfz) q)
            refine J_iload_n (i := 2) hT dX2_passPart_43 rfl rfl ?_
            refine J_topil (hz) ?_
            refine J_lookup (tgt := 155) hT dX2_passPart_44 (by decide) (off := 111) (by decide) (by decide) ?_
            refine J_aload_n (i := 0) hT dX2_passPart_155 rfl rfl ?_
            refine J_iconst (v := 1) hT dX2_passPart_156 rfl ?_
            refine J_iconst (v := 0) hT dX2_passPart_157 rfl ?_
            refine J_bipush (v := 12) hT dX2_passPart_158 rfl ?_
            refine J_callV (ci := 2) hY dX2_passPart_160 mfX2_passName miX2_passName msX2_passName kX2_90 ⟨by decide, rfl⟩ hH.k3 (c_X2_passName hZ hH hX hP hlt (Or.inl ⟨hz2, rfl, rfl, rfl⟩)) rfl (by omega) rfl rfl (Nat.le_of_ble_eq_true rfl) (Nat.le_refl _) (Nat.le_refl _) (fun r1 μ1 hq1 => ?_)
            obtain ⟨rfl, σ1, rfl, hf1, hR1⟩ := hq1
            show zJ _ _ _ _ [] _ _ _
            refine J_goto (tgt := 271) hT dX2_passPart_163 (by decide) ?_
            exact J_vret hT dX2_passPart_271 rfl (⟨rfl, _, rfl, hf1, hR1⟩) (Nat.le_refl _) (Nat.le_refl _)
          · have hz2 := hlS.symm.trans hz
            refine J_aload_n (i := 0) hT dX2_passPart_0 rfl rfl ?_
            refine R_getI hT fX2_25 rfl dX2_passPart_1 hH.k3 ?_
            refine J_if_ne (tgt := 13) hT dX2_passPart_4 (by decide) (fun q => absurd (h5) q) (fun _ => ?_)
            refine J_iload_n (i := 1) hT dX2_passPart_7 rfl rfl ?_
            refine J_bipush (v := 30) hT dX2_passPart_8 rfl ?_
            refine J_icmp_le (tgt := 19) hT dX2_passPart_10 (by decide) (fun _ => ?_) (fun q => absurd (hd30) q)
            refine J_aload_n (i := 0) hT dX2_passPart_19 rfl rfl ?_
            refine R_getP hT fX2_29 rfl dX2_passPart_20 hH.k3 hH.q30 ?_
            refine J_aload_n (i := 0) hT dX2_passPart_23 rfl rfl ?_
            refine R_getI hT fX2_22 rfl dX2_passPart_24 hH.k3 ?_
            refine J_topil (h4) ?_
            refine R_callV1 (ci := 7) hY dX2_passPart_27 mfX7_letterAt miX7_letterAt msX7_letterAt kX2_62 ⟨by decide, rfl⟩ hH.k1 (c_X7_letterAt hZ hH hX (p := p) (by omega)) rfl (by omega) rfl rfl (Nat.le_of_ble_eq_true rfl) (Nat.le_refl _) (Nat.le_refl _) ?_
            refine S_istore2 hT dX2_passPart_30 rfl rfl ?_
            refine J_iload_n (i := 2) hT dX2_passPart_31 rfl rfl ?_
            refine R_callS1 hY dX2_passPart_32 mfX8_isFigure mtX8_isFigure kX2_80 (c_X8_isFigure hZ) rfl (Nat.succ_pos _) rfl rfl (Nat.le_of_ble_eq_true rfl) (Nat.le_refl _) (Nat.le_refl _) ?_
            refine J_if_eq (tgt := 43) hT dX2_passPart_35 (by decide) (fun _ => ?_) (fun q => absurd (hfz) q)
            refine J_iload_n (i := 2) hT dX2_passPart_43 rfl rfl ?_
            refine J_topil (hz) ?_
            refine J_lookup (tgt := 166) hT dX2_passPart_44 (by decide) (off := 122) (by decide) (by decide) ?_
            refine J_aload_n (i := 0) hT dX2_passPart_166 rfl rfl ?_
            refine J_iconst (v := 2) hT dX2_passPart_167 rfl ?_
            refine J_bipush (v := 12) hT dX2_passPart_168 rfl ?_
            refine J_iconst (v := 5) hT dX2_passPart_170 rfl ?_
            refine J_callV (ci := 2) hY dX2_passPart_171 mfX2_passName miX2_passName msX2_passName kX2_90 ⟨by decide, rfl⟩ hH.k3 (c_X2_passName hZ hH hX hP hlt (Or.inr (Or.inl ⟨hz2, rfl, rfl, rfl⟩))) rfl (by omega) rfl rfl (Nat.le_of_ble_eq_true rfl) (Nat.le_refl _) (Nat.le_refl _) (fun r1 μ1 hq1 => ?_)
            obtain ⟨rfl, σ1, rfl, hf1, hR1⟩ := hq1
            show zJ _ _ _ _ [] _ _ _
            refine J_goto (tgt := 271) hT dX2_passPart_174 (by decide) ?_
            exact J_vret hT dX2_passPart_271 rfl (⟨rfl, _, rfl, hf1, hR1⟩) (Nat.le_refl _) (Nat.le_refl _)
          · have hz2 := hlS.symm.trans hz
            refine J_aload_n (i := 0) hT dX2_passPart_0 rfl rfl ?_
            refine R_getI hT fX2_25 rfl dX2_passPart_1 hH.k3 ?_
            refine J_if_ne (tgt := 13) hT dX2_passPart_4 (by decide) (fun q => absurd (h5) q) (fun _ => ?_)
            refine J_iload_n (i := 1) hT dX2_passPart_7 rfl rfl ?_
            refine J_bipush (v := 30) hT dX2_passPart_8 rfl ?_
            refine J_icmp_le (tgt := 19) hT dX2_passPart_10 (by decide) (fun _ => ?_) (fun q => absurd (hd30) q)
            refine J_aload_n (i := 0) hT dX2_passPart_19 rfl rfl ?_
            refine R_getP hT fX2_29 rfl dX2_passPart_20 hH.k3 hH.q30 ?_
            refine J_aload_n (i := 0) hT dX2_passPart_23 rfl rfl ?_
            refine R_getI hT fX2_22 rfl dX2_passPart_24 hH.k3 ?_
            refine J_topil (h4) ?_
            refine R_callV1 (ci := 7) hY dX2_passPart_27 mfX7_letterAt miX7_letterAt msX7_letterAt kX2_62 ⟨by decide, rfl⟩ hH.k1 (c_X7_letterAt hZ hH hX (p := p) (by omega)) rfl (by omega) rfl rfl (Nat.le_of_ble_eq_true rfl) (Nat.le_refl _) (Nat.le_refl _) ?_
            refine S_istore2 hT dX2_passPart_30 rfl rfl ?_
            refine J_iload_n (i := 2) hT dX2_passPart_31 rfl rfl ?_
            refine R_callS1 hY dX2_passPart_32 mfX8_isFigure mtX8_isFigure kX2_80 (c_X8_isFigure hZ) rfl (Nat.succ_pos _) rfl rfl (Nat.le_of_ble_eq_true rfl) (Nat.le_refl _) (Nat.le_refl _) ?_
            refine J_if_eq (tgt := 43) hT dX2_passPart_35 (by decide) (fun _ => ?_) (fun q => absurd (hfz) q)
            refine J_iload_n (i := 2) hT dX2_passPart_43 rfl rfl ?_
            refine J_topil (hz) ?_
            refine J_lookup (tgt := 177) hT dX2_passPart_44 (by decide) (off := 133) (by decide) (by decide) ?_
            refine J_aload_n (i := 0) hT dX2_passPart_177 rfl rfl ?_
            refine J_iconst (v := 3) hT dX2_passPart_178 rfl ?_
            refine J_bipush (v := 17) hT dX2_passPart_179 rfl ?_
            refine J_iconst (v := 5) hT dX2_passPart_181 rfl ?_
            refine J_callV (ci := 2) hY dX2_passPart_182 mfX2_passName miX2_passName msX2_passName kX2_90 ⟨by decide, rfl⟩ hH.k3 (c_X2_passName hZ hH hX hP hlt (Or.inr (Or.inr ⟨hz2, rfl, rfl, rfl⟩))) rfl (by omega) rfl rfl (Nat.le_of_ble_eq_true rfl) (Nat.le_refl _) (Nat.le_refl _) (fun r1 μ1 hq1 => ?_)
            obtain ⟨rfl, σ1, rfl, hf1, hR1⟩ := hq1
            show zJ _ _ _ _ [] _ _ _
            refine J_goto (tgt := 271) hT dX2_passPart_185 (by decide) ?_
            exact J_vret hT dX2_passPart_271 rfl (⟨rfl, _, rfl, hf1, hR1⟩) (Nat.le_refl _) (Nat.le_refl _)
        · rw [if_neg hn] at hRES
          by_cases hf : funB (ltr S L p) = true
          · rw [if_pos hf] at hRES
            have hlt := ltr_ne (S := S) (L := L) (p := p) (fun q => by rw [q] at hf; exact absurd hf (by decide))
            have hgo := hP.go hlt
            have hfg2 := zPf.u3 σ 4 (nI (p + 1))
            rcases funB_c hf with hz | hz | hz
            · rw [hz] at hRES
              have hRES : RES = bdR (brR S L F 2 (p + 1) ks) (fun q k => .inr (q, 30008 :: k)) := hRES
              refine J_aload_n (i := 0) hT dX2_passPart_0 rfl rfl ?_
              refine R_getI hT fX2_25 rfl dX2_passPart_1 hH.k3 ?_
              refine J_if_ne (tgt := 13) hT dX2_passPart_4 (by decide) (fun q => absurd (h5) q) (fun _ => ?_)
              refine J_iload_n (i := 1) hT dX2_passPart_7 rfl rfl ?_
              refine J_bipush (v := 30) hT dX2_passPart_8 rfl ?_
              refine J_icmp_le (tgt := 19) hT dX2_passPart_10 (by decide) (fun _ => ?_) (fun q => absurd (hd30) q)
              refine J_aload_n (i := 0) hT dX2_passPart_19 rfl rfl ?_
              refine R_getP hT fX2_29 rfl dX2_passPart_20 hH.k3 hH.q30 ?_
              refine J_aload_n (i := 0) hT dX2_passPart_23 rfl rfl ?_
              refine R_getI hT fX2_22 rfl dX2_passPart_24 hH.k3 ?_
              refine J_topil (h4) ?_
              refine R_callV1 (ci := 7) hY dX2_passPart_27 mfX7_letterAt miX7_letterAt msX7_letterAt kX2_62 ⟨by decide, rfl⟩ hH.k1 (c_X7_letterAt hZ hH hX (p := p) (by omega)) rfl (by omega) rfl rfl (Nat.le_of_ble_eq_true rfl) (Nat.le_refl _) (Nat.le_refl _) ?_
              refine S_istore2 hT dX2_passPart_30 rfl rfl ?_
              refine J_iload_n (i := 2) hT dX2_passPart_31 rfl rfl ?_
              refine R_callS1 hY dX2_passPart_32 mfX8_isFigure mtX8_isFigure kX2_80 (c_X8_isFigure hZ) rfl (Nat.succ_pos _) rfl rfl (Nat.le_of_ble_eq_true rfl) (Nat.le_refl _) (Nat.le_refl _) ?_
              refine J_if_eq (tgt := 43) hT dX2_passPart_35 (by decide) (fun _ => ?_) (fun q => absurd (hfz) q)
              refine J_iload_n (i := 2) hT dX2_passPart_43 rfl rfl ?_
              refine J_topil (hz) ?_
              refine J_lookup (tgt := 188) hT dX2_passPart_44 (by decide) (off := 144) (by decide) (by decide) ?_
              refine J_aload_n (i := 0) hT dX2_passPart_188 rfl rfl ?_
              refine J_dup hT dX2_passPart_189 rfl ?_
              refine R_getI hT fX2_22 rfl dX2_passPart_190 hH.k3 ?_
              refine J_topil (h4) ?_
              refine J_iconst (v := 1) hT dX2_passPart_193 rfl ?_
              refine J_iadd hT dX2_passPart_194 ?_
              refine J_topil ((nI_1 _)) ?_
              refine R_putI hT fX2_22 rfl rfl dX2_passPart_195 hH.k3 ?_
              refine J_aload_n (i := 0) hT dX2_passPart_198 rfl rfl ?_
              refine J_iload_n (i := 1) hT dX2_passPart_199 rfl rfl ?_
              refine J_iconst (v := 2) hT dX2_passPart_200 rfl ?_
              refine J_callV (ci := 2) hY dX2_passPart_201 mfX2_passBrackets miX2_passBrackets msX2_passBrackets kX2_87 ⟨by decide, rfl⟩ hH.k3 (hBr 2 (by decide) (by decide) _ (p + 1) (b + 1) ks (hX.mv hfg2) hgo) rfl (by omega) rfl rfl (Nat.le_of_ble_eq_true rfl) (Nat.le_refl _) (Nat.le_refl _) (fun r1 μ1 hq1 => ?_)
              obtain ⟨rfl, σ1, rfl, hf1, hR1⟩ := hq1
              show zJ _ _ _ _ [] _ _ _
              cases hXX : brR S L F 2 (p + 1) ks with
              | inl q =>
                rw [hXX] at hR1 hRES
                have hb2 : RES = .inl q := hRES
                obtain ⟨z1, z2, z3⟩ := hR1
                refine J_aload_n (i := 0) hT dX2_passPart_204 rfl rfl ?_
                refine J_bipush (v := 11) hT dX2_passPart_205 rfl ?_
                refine J_iconst (v := 0) hT dX2_passPart_207 rfl ?_
                refine R_callV0 (ci := 2) hY dX2_passPart_208 mfX2_write miX2_write msX2_write kX2_70 ⟨by decide, rfl⟩ hH.k3 (c_X2_writeS hZ hH (hX.mv (hfg2.tr hf1)) (by rw [z3]; decide)) rfl (by omega) rfl rfl (Nat.le_of_ble_eq_true rfl) (Nat.le_refl _) (Nat.le_refl _) ?_
                refine J_goto (tgt := 271) hT dX2_passPart_211 (by decide) ?_
                exact J_vret hT dX2_passPart_271 rfl (⟨rfl, _, rfl, hfg2.tr hf1, by rw [hb2]; exact ⟨z1, z2, z3⟩⟩) (Nat.le_refl _) (Nat.le_refl _)
              | inr s =>
                obtain ⟨p2, k2⟩ := s
                rw [hXX] at hR1 hRES
                have hb2 : RES = .inr (p2, 30008 :: k2) := hRES
                have hR2' : zPp L p2 k2 (b + 1) σ1 := hR1
                obtain ⟨z2, z3, z4, z5, z6, z7, z8⟩ := id hR2'
                have htok := enc_d 8 (by decide) (by decide)
                have hwr := hR2'.wr (x := 30008) htok.2
                refine J_aload_n (i := 0) hT dX2_passPart_204 rfl rfl ?_
                refine J_bipush (v := 11) hT dX2_passPart_205 rfl ?_
                refine J_iconst (v := 0) hT dX2_passPart_207 rfl ?_
                refine R_callV0 (ci := 2) hY dX2_passPart_208 mfX2_write miX2_write msX2_write kX2_70 ⟨by decide, rfl⟩ hH.k3 (c_X2_write hZ hH (hX.mv (hfg2.tr hf1)) (ks := k2) z2 z5 (by omega)) rfl (by omega) rfl rfl (Nat.le_of_ble_eq_true rfl) (Nat.le_refl _) (Nat.le_refl _) ?_
                refine J_goto (tgt := 271) hT dX2_passPart_211 (by decide) ?_
                refine J_mu (congrArg (fun x => zA4 μ (zu (zu σ1 4 k2.length x) 3 2 (nI (k2.length + 1))) π g) htok.1) ?_
                exact J_vret hT dX2_passPart_271 rfl (⟨rfl, _, rfl, (hfg2.tr hf1).tr ((zPf.u4 _ _ _).tr (zPf.u3 _ _ _)), by rw [hb2]; exact hwr⟩) (Nat.le_refl _) (Nat.le_refl _)
            · rw [hz] at hRES
              have hRES : RES = bdR (brR S L F 2 (p + 1) ks) (fun q k => .inr (q, 30009 :: k)) := hRES
              refine J_aload_n (i := 0) hT dX2_passPart_0 rfl rfl ?_
              refine R_getI hT fX2_25 rfl dX2_passPart_1 hH.k3 ?_
              refine J_if_ne (tgt := 13) hT dX2_passPart_4 (by decide) (fun q => absurd (h5) q) (fun _ => ?_)
              refine J_iload_n (i := 1) hT dX2_passPart_7 rfl rfl ?_
              refine J_bipush (v := 30) hT dX2_passPart_8 rfl ?_
              refine J_icmp_le (tgt := 19) hT dX2_passPart_10 (by decide) (fun _ => ?_) (fun q => absurd (hd30) q)
              refine J_aload_n (i := 0) hT dX2_passPart_19 rfl rfl ?_
              refine R_getP hT fX2_29 rfl dX2_passPart_20 hH.k3 hH.q30 ?_
              refine J_aload_n (i := 0) hT dX2_passPart_23 rfl rfl ?_
              refine R_getI hT fX2_22 rfl dX2_passPart_24 hH.k3 ?_
              refine J_topil (h4) ?_
              refine R_callV1 (ci := 7) hY dX2_passPart_27 mfX7_letterAt miX7_letterAt msX7_letterAt kX2_62 ⟨by decide, rfl⟩ hH.k1 (c_X7_letterAt hZ hH hX (p := p) (by omega)) rfl (by omega) rfl rfl (Nat.le_of_ble_eq_true rfl) (Nat.le_refl _) (Nat.le_refl _) ?_
              refine S_istore2 hT dX2_passPart_30 rfl rfl ?_
              refine J_iload_n (i := 2) hT dX2_passPart_31 rfl rfl ?_
              refine R_callS1 hY dX2_passPart_32 mfX8_isFigure mtX8_isFigure kX2_80 (c_X8_isFigure hZ) rfl (Nat.succ_pos _) rfl rfl (Nat.le_of_ble_eq_true rfl) (Nat.le_refl _) (Nat.le_refl _) ?_
              refine J_if_eq (tgt := 43) hT dX2_passPart_35 (by decide) (fun _ => ?_) (fun q => absurd (hfz) q)
              refine J_iload_n (i := 2) hT dX2_passPart_43 rfl rfl ?_
              refine J_topil (hz) ?_
              refine J_lookup (tgt := 214) hT dX2_passPart_44 (by decide) (off := 170) (by decide) (by decide) ?_
              refine J_aload_n (i := 0) hT dX2_passPart_214 rfl rfl ?_
              refine J_dup hT dX2_passPart_215 rfl ?_
              refine R_getI hT fX2_22 rfl dX2_passPart_216 hH.k3 ?_
              refine J_topil (h4) ?_
              refine J_iconst (v := 1) hT dX2_passPart_219 rfl ?_
              refine J_iadd hT dX2_passPart_220 ?_
              refine J_topil ((nI_1 _)) ?_
              refine R_putI hT fX2_22 rfl rfl dX2_passPart_221 hH.k3 ?_
              refine J_aload_n (i := 0) hT dX2_passPart_224 rfl rfl ?_
              refine J_iload_n (i := 1) hT dX2_passPart_225 rfl rfl ?_
              refine J_iconst (v := 2) hT dX2_passPart_226 rfl ?_
              refine J_callV (ci := 2) hY dX2_passPart_227 mfX2_passBrackets miX2_passBrackets msX2_passBrackets kX2_87 ⟨by decide, rfl⟩ hH.k3 (hBr 2 (by decide) (by decide) _ (p + 1) (b + 1) ks (hX.mv hfg2) hgo) rfl (by omega) rfl rfl (Nat.le_of_ble_eq_true rfl) (Nat.le_refl _) (Nat.le_refl _) (fun r1 μ1 hq1 => ?_)
              obtain ⟨rfl, σ1, rfl, hf1, hR1⟩ := hq1
              show zJ _ _ _ _ [] _ _ _
              cases hXX : brR S L F 2 (p + 1) ks with
              | inl q =>
                rw [hXX] at hR1 hRES
                have hb2 : RES = .inl q := hRES
                obtain ⟨z1, z2, z3⟩ := hR1
                refine J_aload_n (i := 0) hT dX2_passPart_230 rfl rfl ?_
                refine J_bipush (v := 12) hT dX2_passPart_231 rfl ?_
                refine J_iconst (v := 0) hT dX2_passPart_233 rfl ?_
                refine R_callV0 (ci := 2) hY dX2_passPart_234 mfX2_write miX2_write msX2_write kX2_70 ⟨by decide, rfl⟩ hH.k3 (c_X2_writeS hZ hH (hX.mv (hfg2.tr hf1)) (by rw [z3]; decide)) rfl (by omega) rfl rfl (Nat.le_of_ble_eq_true rfl) (Nat.le_refl _) (Nat.le_refl _) ?_
                refine J_goto (tgt := 271) hT dX2_passPart_237 (by decide) ?_
                exact J_vret hT dX2_passPart_271 rfl (⟨rfl, _, rfl, hfg2.tr hf1, by rw [hb2]; exact ⟨z1, z2, z3⟩⟩) (Nat.le_refl _) (Nat.le_refl _)
              | inr s =>
                obtain ⟨p2, k2⟩ := s
                rw [hXX] at hR1 hRES
                have hb2 : RES = .inr (p2, 30009 :: k2) := hRES
                have hR2' : zPp L p2 k2 (b + 1) σ1 := hR1
                obtain ⟨z2, z3, z4, z5, z6, z7, z8⟩ := id hR2'
                have htok := enc_d 9 (by decide) (by decide)
                have hwr := hR2'.wr (x := 30009) htok.2
                refine J_aload_n (i := 0) hT dX2_passPart_230 rfl rfl ?_
                refine J_bipush (v := 12) hT dX2_passPart_231 rfl ?_
                refine J_iconst (v := 0) hT dX2_passPart_233 rfl ?_
                refine R_callV0 (ci := 2) hY dX2_passPart_234 mfX2_write miX2_write msX2_write kX2_70 ⟨by decide, rfl⟩ hH.k3 (c_X2_write hZ hH (hX.mv (hfg2.tr hf1)) (ks := k2) z2 z5 (by omega)) rfl (by omega) rfl rfl (Nat.le_of_ble_eq_true rfl) (Nat.le_refl _) (Nat.le_refl _) ?_
                refine J_goto (tgt := 271) hT dX2_passPart_237 (by decide) ?_
                refine J_mu (congrArg (fun x => zA4 μ (zu (zu σ1 4 k2.length x) 3 2 (nI (k2.length + 1))) π g) htok.1) ?_
                exact J_vret hT dX2_passPart_271 rfl (⟨rfl, _, rfl, (hfg2.tr hf1).tr ((zPf.u4 _ _ _).tr (zPf.u3 _ _ _)), by rw [hb2]; exact hwr⟩) (Nat.le_refl _) (Nat.le_refl _)
            · rw [hz] at hRES
              have hRES : RES = bdR (brR S L F 3 (p + 1) ks) (fun q k => .inr (q, 30010 :: k)) := hRES
              refine J_aload_n (i := 0) hT dX2_passPart_0 rfl rfl ?_
              refine R_getI hT fX2_25 rfl dX2_passPart_1 hH.k3 ?_
              refine J_if_ne (tgt := 13) hT dX2_passPart_4 (by decide) (fun q => absurd (h5) q) (fun _ => ?_)
              refine J_iload_n (i := 1) hT dX2_passPart_7 rfl rfl ?_
              refine J_bipush (v := 30) hT dX2_passPart_8 rfl ?_
              refine J_icmp_le (tgt := 19) hT dX2_passPart_10 (by decide) (fun _ => ?_) (fun q => absurd (hd30) q)
              refine J_aload_n (i := 0) hT dX2_passPart_19 rfl rfl ?_
              refine R_getP hT fX2_29 rfl dX2_passPart_20 hH.k3 hH.q30 ?_
              refine J_aload_n (i := 0) hT dX2_passPart_23 rfl rfl ?_
              refine R_getI hT fX2_22 rfl dX2_passPart_24 hH.k3 ?_
              refine J_topil (h4) ?_
              refine R_callV1 (ci := 7) hY dX2_passPart_27 mfX7_letterAt miX7_letterAt msX7_letterAt kX2_62 ⟨by decide, rfl⟩ hH.k1 (c_X7_letterAt hZ hH hX (p := p) (by omega)) rfl (by omega) rfl rfl (Nat.le_of_ble_eq_true rfl) (Nat.le_refl _) (Nat.le_refl _) ?_
              refine S_istore2 hT dX2_passPart_30 rfl rfl ?_
              refine J_iload_n (i := 2) hT dX2_passPart_31 rfl rfl ?_
              refine R_callS1 hY dX2_passPart_32 mfX8_isFigure mtX8_isFigure kX2_80 (c_X8_isFigure hZ) rfl (Nat.succ_pos _) rfl rfl (Nat.le_of_ble_eq_true rfl) (Nat.le_refl _) (Nat.le_refl _) ?_
              refine J_if_eq (tgt := 43) hT dX2_passPart_35 (by decide) (fun _ => ?_) (fun q => absurd (hfz) q)
              refine J_iload_n (i := 2) hT dX2_passPart_43 rfl rfl ?_
              refine J_topil (hz) ?_
              refine J_lookup (tgt := 240) hT dX2_passPart_44 (by decide) (off := 196) (by decide) (by decide) ?_
              refine J_aload_n (i := 0) hT dX2_passPart_240 rfl rfl ?_
              refine J_dup hT dX2_passPart_241 rfl ?_
              refine R_getI hT fX2_22 rfl dX2_passPart_242 hH.k3 ?_
              refine J_topil (h4) ?_
              refine J_iconst (v := 1) hT dX2_passPart_245 rfl ?_
              refine J_iadd hT dX2_passPart_246 ?_
              refine J_topil ((nI_1 _)) ?_
              refine R_putI hT fX2_22 rfl rfl dX2_passPart_247 hH.k3 ?_
              refine J_aload_n (i := 0) hT dX2_passPart_250 rfl rfl ?_
              refine J_iload_n (i := 1) hT dX2_passPart_251 rfl rfl ?_
              refine J_iconst (v := 3) hT dX2_passPart_252 rfl ?_
              refine J_callV (ci := 2) hY dX2_passPart_253 mfX2_passBrackets miX2_passBrackets msX2_passBrackets kX2_87 ⟨by decide, rfl⟩ hH.k3 (hBr 3 (by decide) (by decide) _ (p + 1) (b + 1) ks (hX.mv hfg2) hgo) rfl (by omega) rfl rfl (Nat.le_of_ble_eq_true rfl) (Nat.le_refl _) (Nat.le_refl _) (fun r1 μ1 hq1 => ?_)
              obtain ⟨rfl, σ1, rfl, hf1, hR1⟩ := hq1
              show zJ _ _ _ _ [] _ _ _
              cases hXX : brR S L F 3 (p + 1) ks with
              | inl q =>
                rw [hXX] at hR1 hRES
                have hb2 : RES = .inl q := hRES
                obtain ⟨z1, z2, z3⟩ := hR1
                refine J_aload_n (i := 0) hT dX2_passPart_256 rfl rfl ?_
                refine J_bipush (v := 13) hT dX2_passPart_257 rfl ?_
                refine J_iconst (v := 0) hT dX2_passPart_259 rfl ?_
                refine R_callV0 (ci := 2) hY dX2_passPart_260 mfX2_write miX2_write msX2_write kX2_70 ⟨by decide, rfl⟩ hH.k3 (c_X2_writeS hZ hH (hX.mv (hfg2.tr hf1)) (by rw [z3]; decide)) rfl (by omega) rfl rfl (Nat.le_of_ble_eq_true rfl) (Nat.le_refl _) (Nat.le_refl _) ?_
                refine J_goto (tgt := 271) hT dX2_passPart_263 (by decide) ?_
                exact J_vret hT dX2_passPart_271 rfl (⟨rfl, _, rfl, hfg2.tr hf1, by rw [hb2]; exact ⟨z1, z2, z3⟩⟩) (Nat.le_refl _) (Nat.le_refl _)
              | inr s =>
                obtain ⟨p2, k2⟩ := s
                rw [hXX] at hR1 hRES
                have hb2 : RES = .inr (p2, 30010 :: k2) := hRES
                have hR2' : zPp L p2 k2 (b + 1) σ1 := hR1
                obtain ⟨z2, z3, z4, z5, z6, z7, z8⟩ := id hR2'
                have htok := enc_d 10 (by decide) (by decide)
                have hwr := hR2'.wr (x := 30010) htok.2
                refine J_aload_n (i := 0) hT dX2_passPart_256 rfl rfl ?_
                refine J_bipush (v := 13) hT dX2_passPart_257 rfl ?_
                refine J_iconst (v := 0) hT dX2_passPart_259 rfl ?_
                refine R_callV0 (ci := 2) hY dX2_passPart_260 mfX2_write miX2_write msX2_write kX2_70 ⟨by decide, rfl⟩ hH.k3 (c_X2_write hZ hH (hX.mv (hfg2.tr hf1)) (ks := k2) z2 z5 (by omega)) rfl (by omega) rfl rfl (Nat.le_of_ble_eq_true rfl) (Nat.le_refl _) (Nat.le_refl _) ?_
                refine J_goto (tgt := 271) hT dX2_passPart_263 (by decide) ?_
                refine J_mu (congrArg (fun x => zA4 μ (zu (zu σ1 4 k2.length x) 3 2 (nI (k2.length + 1))) π g) htok.1) ?_
                exact J_vret hT dX2_passPart_271 rfl (⟨rfl, _, rfl, (hfg2.tr hf1).tr ((zPf.u4 _ _ _).tr (zPf.u3 _ _ _)), by rw [hb2]; exact hwr⟩) (Nat.le_refl _) (Nat.le_refl _)
          · rw [if_neg hf] at hRES
            rw [hRES]
            refine J_aload_n (i := 0) hT dX2_passPart_0 rfl rfl ?_
            refine R_getI hT fX2_25 rfl dX2_passPart_1 hH.k3 ?_
            refine J_if_ne (tgt := 13) hT dX2_passPart_4 (by decide) (fun q => absurd (h5) q) (fun _ => ?_)
            refine J_iload_n (i := 1) hT dX2_passPart_7 rfl rfl ?_
            refine J_bipush (v := 30) hT dX2_passPart_8 rfl ?_
            refine J_icmp_le (tgt := 19) hT dX2_passPart_10 (by decide) (fun _ => ?_) (fun q => absurd (hd30) q)
            refine J_aload_n (i := 0) hT dX2_passPart_19 rfl rfl ?_
            refine R_getP hT fX2_29 rfl dX2_passPart_20 hH.k3 hH.q30 ?_
            refine J_aload_n (i := 0) hT dX2_passPart_23 rfl rfl ?_
            refine R_getI hT fX2_22 rfl dX2_passPart_24 hH.k3 ?_
            refine J_topil (h4) ?_
            refine R_callV1 (ci := 7) hY dX2_passPart_27 mfX7_letterAt miX7_letterAt msX7_letterAt kX2_62 ⟨by decide, rfl⟩ hH.k1 (c_X7_letterAt hZ hH hX (p := p) (by omega)) rfl (by omega) rfl rfl (Nat.le_of_ble_eq_true rfl) (Nat.le_refl _) (Nat.le_refl _) ?_
            refine S_istore2 hT dX2_passPart_30 rfl rfl ?_
            refine J_iload_n (i := 2) hT dX2_passPart_31 rfl rfl ?_
            refine R_callS1 hY dX2_passPart_32 mfX8_isFigure mtX8_isFigure kX2_80 (c_X8_isFigure hZ) rfl (Nat.succ_pos _) rfl rfl (Nat.le_of_ble_eq_true rfl) (Nat.le_refl _) (Nat.le_refl _) ?_
            refine J_if_eq (tgt := 43) hT dX2_passPart_35 (by decide) (fun _ => ?_) (fun q => absurd (hfz) q)
            refine J_iload_n (i := 2) hT dX2_passPart_43 rfl rfl ?_
            refine J_lookup (tgt := 266) hT dX2_passPart_44 (by decide) (off := 222) (part_off hs hb hn hf) (by decide) ?_
            refine J_aload_n (i := 0) hT dX2_passPart_266 rfl rfl ?_
            refine J_iconst (v := 1) hT dX2_passPart_267 rfl ?_
            refine R_putZ hT fX2_25 rfl rfl (by decide) dX2_passPart_268 hH.k3 ?_
            exact J_vret hT dX2_passPart_271 rfl (⟨rfl, _, rfl, zPf.u3 _ _ _, zPR.stuck h8 h4⟩) (Nat.le_refl _) (Nat.le_refl _)

theorem c_X2_part {l : Launch} {Z : zZ} (hZ : zSt l Z) {μ : zMem} {π : zP2} {g : zG2} {S : zS2} {L : Nat} (hH : zPh μ π) : ∀ f, f ≤ 31 → zPk l Z μ π g S L mX2_passPart (5 * f + 3) [.ref 3, .int (nI (31 - f))] (dP S L f)
    ∧ zPk l Z μ π g S L mX2_passFormula (5 * f + 6) [.ref 3, .int (nI (31 - f))] (foR S L (smR S L (prR S L (dP S L f)))) := by
  have up : ∀ f, zPk l Z μ π g S L mX2_passPart (5 * f + 3) [.ref 3, .int (nI (31 - f))] (dP S L f) → zPk l Z μ π g S L mX2_passFormula (5 * f + 6) [.ref 3, .int (nI (31 - f))] (foR S L (smR S L (prR S L (dP S L f)))) := by
    intro f h
    have h1 : zPk l Z μ π g S L mX2_passProduct (5 * f + 4) [.ref 3, .int (nI (31 - f))] (prR S L (dP S L f)) := fun σ p b ks hX hP => c_X2_passProduct hZ hH hX hP h
    have h2 : zPk l Z μ π g S L mX2_passSum (5 * f + 5) [.ref 3, .int (nI (31 - f))] (smR S L (prR S L (dP S L f))) := fun σ p b ks hX hP => c_X2_passSum hZ hH hX hP h1
    exact fun σ p b ks hX hP => c_X2_passFormula hZ hH hX hP h2
  intro f
  induction f with
  | zero =>
    intro _
    have h0 : zPk l Z μ π g S L mX2_passPart (5 * 0 + 3) [.ref 3, .int (nI (31 - 0))] (dP S L 0) := fun σ p b ks hX hP => c_X2_passPart0 hZ hH hX hP
    exact ⟨h0, up 0 h0⟩
  | succ f ih =>
    intro hf
    obtain ⟨i1, i2⟩ := ih (by omega)
    have hd : nI (31 - (f + 1)) + 1 = nI (31 - f) := by rw [nI_1]; congr 1; omega
    have hB : ∀ N, 1 ≤ N → N ≤ 3 → zPk l Z μ π g S L mX2_passBrackets (5 * f + 7) [.ref 3, .int (nI (31 - (f + 1))), .int (nI N)] (brR S L (foR S L (smR S L (prR S L (dP S L f)))) N) := fun N h1 h2 σ p b ks hX hP => c_X2_passBrackets hZ hH hX hP hd ⟨h1, h2⟩ (by omega) i2
    have h0 : zPk l Z μ π g S L mX2_passPart (5 * (f + 1) + 3) [.ref 3, .int (nI (31 - (f + 1)))] (dP S L (f + 1)) := fun σ p b ks hX hP => c_X2_passPart hZ hH hX hP hd (nI_le (a := 31 - (f + 1)) (b := 30) (by omega) (by decide)) (K := 5 * f + 7) (by omega) (by omega) i1 hB
    exact ⟨h0, up (f + 1) h0⟩

