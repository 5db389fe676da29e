theorem nI_or0 (n : Nat) : nI n <<< ((4 : Int32) &&& 31) ||| 0 = nI (16 * n) := by
  rw [Int32.or_zero, show ((4 : Int32) &&& 31) = 4 from rfl]
  apply Int32.toBitVec_inj.mp
  rw [Int32.toBitVec_shiftLeft]
  show (nI n).toBitVec <<< 4 = _
  apply BitVec.eq_of_toNat_eq
  rw [BitVec.toNat_shiftLeft]
  show (Int32.ofNat n).toBitVec.toNat <<< 4 % 2 ^ 32 = (Int32.ofNat (16 * n)).toBitVec.toNat
  simp only [Int32.toBitVec_ofNat', BitVec.toNat_ofNat, Nat.shiftLeft_eq]
  omega
theorem figB_in {S : zS2} {L p : Nat} (h : figB (ltr S L p) = true) : p < L ∧ figB (S 68 p) = true := by
  by_cases q : p < L
  · rw [ltr_in q] at h; exact ⟨q, h⟩
  · rw [ltr_out q] at h; exact absurd h (by decide)
theorem ltr_ne {S : zS2} {L p : Nat} (h : ltr S L p ≠ 0) : p < L := by
  by_cases q : p < L
  · exact q
  · exact absurd (ltr_out q) h
theorem zPR.stuck {L b q : Nat} {σ : zS2} (hq : q ≤ L) (h : σ 3 4 = nI q) : zPR L b (.inl q) (zu σ 3 5 1) := ⟨hq, (zu_nj _ _ _ _ _ (by decide)).trans h, zu_eq _ _ _ _⟩
/-- a call of the parser -/
abbrev zPq (L b : Nat) (μ : zMem) (σ : zS2) (π : zP2) (g : zG2) (R : Nat ⊕ (Nat × List Nat)) (r : Option Value) (μ' : zMem) : Prop := r = none ∧ ∃ σ', μ' = zA4 μ σ' π g ∧ zPf σ σ' ∧ zPR L b R σ'
def sgR (S : zS2) (L : Nat) (c : Int32) (p : Nat) (ks : List Nat) : Nat ⊕ (Nat × List Nat) := if ltr S L p = c then .inr (p + 1, ks) else .inl p
def nmR (S : zS2) (L p : Nat) (ks : List Nat) : Nat ⊕ (Nat × List Nat) := if nmBad S L p = true then .inl (p + 1) else .inr (nmP S L p, (nmBase (S 68 p) + nmV S L p) :: ks)
def nuR (S : zS2) (L p : Nat) (ks : List Nat) : Nat ⊕ (Nat × List Nat) := .inr (p + ndF S L p 4, nvF S p (ndF S L p 4) :: ks)
theorem nv_sc {σ : zS2} {p i : Nat} (h : figB (σ 68 (p + i)) = true) : nI (nvF σ p i) * 10 + (σ 68 (p + i) - 48) = nI (nvF σ p (i + 1)) := by
  obtain ⟨t, h1, h2, e⟩ := figB_nI h
  simp only [nvF]
  rw [e, show (48 : Int32) = nI 48 from rfl, nI_sub h1, show (10 : Int32) = nI 10 from rfl, nI_mul, nI_add, nI_clamp (show t < 2147483648 by omega)]
  exact congrArg nI (by omega)
theorem zu_id {σ : zS2} {a i : Nat} {v : Int32} (h : σ a i = v) : zu σ a i v = σ := by
  funext b j
  unfold zu
  split
  · rename_i q; rw [q.1, q.2, h]
  · rfl
set_option maxRecDepth 100000 in
set_option maxHeartbeats 4000000 in
theorem c_X2_passSign {l : Launch} {Z : zZ} (hZ : zSt l Z) {μ : zMem} {σ : zS2} {π : zP2} {g : zG2} {S : zS2} {L : Nat} (hH : zPh μ π) (hX : zTx S L σ) {p b : Nat} {ks : List Nat} (hP : zPp L p ks b σ) {c : Int32} (hc : c ≠ 0) : zCt l Z mX2_passSign 1 0 0 [.ref 3, .int c] (zA4 μ σ π g) (zPq L (b + 1) μ σ π g (sgR S L c p ks)) := by
  refine zCt_of hZ mpX2_passSign (Nat.le_of_ble_eq_true rfl) (L := [some (.ref 3), some (.int c)]) rfl (fun τ hY => ?_)
  have hT := hY.1
  have h30 := hX.2.1
  obtain ⟨h2, h3, h4, h5, h6, h7, h8⟩ := id hP
  refine J_aload_n (i := 0) hT dX2_passSign_0 rfl rfl ?_
  refine R_getI hT fX2_25 rfl dX2_passSign_1 hH.k3 ?_
  refine J_if_ne (tgt := 22) hT dX2_passSign_4 (by decide) (fun q => absurd (h5) q) (fun _ => ?_)
  refine J_aload_n (i := 0) hT dX2_passSign_7 rfl rfl ?_
  refine R_getP hT fX2_29 rfl dX2_passSign_8 hH.k3 hH.q30 ?_
  refine J_aload_n (i := 0) hT dX2_passSign_11 rfl rfl ?_
  refine R_getI hT fX2_22 rfl dX2_passSign_12 hH.k3 ?_
  refine J_topil (h4) ?_
  refine R_callV1 (ci := 7) hY dX2_passSign_15 mfX7_letterAt miX7_letterAt msX7_letterAt kX2_62 ⟨by decide, rfl⟩ hH.k1 (c_X7_letterAt hZ hH hX (by omega)) rfl (by decide) rfl rfl (Nat.le_of_ble_eq_true rfl) (Nat.le_refl _) (Nat.le_refl _) ?_
  refine J_iload_n (i := 1) hT dX2_passSign_18 rfl rfl ?_
  refine J_icmp_eq (tgt := 28) hT dX2_passSign_19 (by decide) (fun q19 => ?_) (fun q19 => ?_)
  · refine J_aload_n (i := 0) hT dX2_passSign_28 rfl rfl ?_
    refine J_dup hT dX2_passSign_29 rfl ?_
    refine R_getI hT fX2_22 rfl dX2_passSign_30 hH.k3 ?_
    refine J_topil (h4) ?_
    refine J_iconst (v := 1) hT dX2_passSign_33 rfl ?_
    refine J_iadd hT dX2_passSign_34 ?_
    refine J_topil ((nI_1 _)) ?_
    refine R_putI hT fX2_22 rfl rfl dX2_passSign_35 hH.k3 ?_
    exact J_vret hT dX2_passSign_38 rfl (⟨rfl, _, rfl, zPf.u3 _ _ _, by rw [sgR, if_pos q19]; exact hP.go (ltr_ne (by rw [q19]; exact hc))⟩) (Nat.le_refl _) (Nat.le_refl _)
  · refine J_aload_n (i := 0) hT dX2_passSign_22 rfl rfl ?_
    refine J_iconst (v := 1) hT dX2_passSign_23 rfl ?_
    refine R_putZ hT fX2_25 rfl rfl (by decide) dX2_passSign_24 hH.k3 ?_
    exact J_vret hT dX2_passSign_27 rfl (⟨rfl, _, rfl, zPf.u3 _ _ _, by rw [sgR, if_neg (fun q => q19 q)]; exact zPR.stuck h8 h4⟩) (Nat.le_refl _) (Nat.le_refl _)

set_option maxRecDepth 100000 in
set_option maxHeartbeats 4000000 in
theorem c_X2_passSignS {l : Launch} {Z : zZ} (hZ : zSt l Z) {μ : zMem} {σ : zS2} {π : zP2} {g : zG2} {S : zS2} {L : Nat} (hH : zPh μ π) (hX : zTx S L σ) {q b : Nat} {c : Int32} (hP : q ≤ L ∧ σ 3 4 = nI q ∧ σ 3 5 = 1) : zCt l Z mX2_passSign 1 0 0 [.ref 3, .int c] (zA4 μ σ π g) (zPq L b μ σ π g (.inl q)) := by
  refine zCt_of hZ mpX2_passSign (Nat.le_of_ble_eq_true rfl) (L := [some (.ref 3), some (.int c)]) rfl (fun τ hY => ?_)
  have hT := hY.1
  refine J_aload_n (i := 0) hT dX2_passSign_0 rfl rfl ?_
  refine R_getI hT fX2_25 rfl dX2_passSign_1 hH.k3 ?_
  refine J_if_ne (tgt := 22) hT dX2_passSign_4 (by decide) (fun _ => ?_) (fun q => absurd q ((by rw [hP.2.2]; decide)))
  refine J_aload_n (i := 0) hT dX2_passSign_22 rfl rfl ?_
  refine J_iconst (v := 1) hT dX2_passSign_23 rfl ?_
  refine R_putZ hT fX2_25 rfl rfl (by decide) dX2_passSign_24 hH.k3 ?_
  exact J_vret hT dX2_passSign_27 rfl (⟨rfl, _, rfl, zPf.u3 _ _ _, zPR.stuck hP.1 hP.2.1⟩) (Nat.le_refl _) (Nat.le_refl _)

set_option maxRecDepth 100000 in
set_option maxHeartbeats 4000000 in
theorem c_X2_passNumber {l : Launch} {Z : zZ} (hZ : zSt l Z) {μ : zMem} {σ : zS2} {π : zP2} {g : zG2} {S : zS2} {L : Nat} (hH : zPh μ π) (hX : zTx S L σ) {p b : Nat} {ks : List Nat} (hP : zPp L p ks b σ) (hp : p < L) (hf : figB (S 68 p) = true) : zCt l Z mX2_passNumber 1 0 0 [.ref 3] (zA4 μ σ π g) (zPq L b μ σ π g (nuR S L p ks)) := by
  refine zCt_of hZ mpX2_passNumber (Nat.le_of_ble_eq_true rfl) (L := [some (.ref 3), none, none]) rfl (fun τ hY => ?_)
  have hT := hY.1
  have h30 := hX.2.1
  obtain ⟨h2, h3, h4, h5, h6, h7, h8⟩ := id hP
  have hd1 : 0 < ndF S L p 4 := ndF_pos (f := 3) hp hf
  have hd2 := ndF_L S L 4 p (by omega)
  have hd3 := (num_tok S L p)
  have fin : ∀ i, ndF S L p 4 = i → ∀ c : Int32, zJ τ (zFn τ (zPq L b μ σ π g (nuR S L p ks)) 0 0) 62 [some (.ref 3), some (.int (nI (nvF S p i))), some (.int (c))] [] (zA4 μ (zu σ 3 4 (nI (p + i))) π g) 0 0 := by
    intro i hi c
    have hn : nvF S p i < 10000 := by
      rw [← hi]
      have hb := nvF_bd (ndF S L p 4) (fun k hk => ndF_fig 4 p k hk)
      exact Nat.lt_of_lt_of_le hb (Nat.pow_le_pow_right (by decide) (ndF_le S L 4 p) : 10 ^ ndF S L p 4 ≤ 10 ^ 4)
    have hen : enc (nvF S p i) = nI (16 * nvF S p i) := by unfold enc; rw [if_pos (by omega)]
    have hP2 : zPp L (p + i) ks (b + 1) (zu σ 3 4 (nI (p + i))) := ⟨(zu_nj _ _ _ _ _ (by decide)).trans h2, (zu_nj _ _ _ _ _ (by decide)).trans h3, zu_eq _ _ _ _, (zu_nj _ _ _ _ _ (by decide)).trans h5, h6.mv (fun j _ => zu_ne _ _ _ _ (by decide) j), by omega, by omega⟩
    have hP3 := hP2.wr (x := nvF S p i) (by unfold rdB; rw [if_pos (by omega)])
    rw [hen] at hP3
    refine J_aload_n (i := 0) hT dX2_passNumber_62 rfl rfl ?_
    refine J_iconst (v := 0) hT dX2_passNumber_63 rfl ?_
    refine J_iload_n (i := 1) hT dX2_passNumber_64 rfl rfl ?_
    refine R_callV0 (ci := 2) hY dX2_passNumber_65 mfX2_write miX2_write msX2_write kX2_70 ⟨by decide, rfl⟩ hH.k3 (c_X2_write hZ hH (hX.mv (zPf.u3 _ _ _)) (ks := ks) ((zu_nj _ _ _ _ _ (by decide)).trans h2) ((zu_nj _ _ _ _ _ (by decide)).trans h5) (by omega)) rfl (by decide) rfl rfl (Nat.le_of_ble_eq_true rfl) (Nat.le_refl _) (Nat.le_refl _) ?_
    exact J_vret hT dX2_passNumber_68 rfl (⟨rfl, _, rfl, (zPf.u3 _ _ _).tr ((zPf.u4 _ _ _).tr (zPf.u3 _ _ _)), by rw [nuR, hi]; rw [nI_or0]; exact hP3⟩) (Nat.le_refl _) (Nat.le_refl _)
  have loop : ∀ f i, i + f = 4 → ndF S L p 4 = i + ndF S L (p + i) f → zJ τ (zFn τ (zPq L b μ σ π g (nuR S L p ks)) 0 0) 4 [some (.ref 3), some (.int (nI (nvF S p i))), some (.int (nI i))] [] (zA4 μ (zu σ 3 4 (nI (p + i))) π g) 0 0 := by
    intro f
    induction f with
    | zero =>
      intro i hi he
      have e4 : i = 4 := by omega
      refine J_iload_n (i := 2) hT dX2_passNumber_4 rfl rfl ?_
      refine J_iconst (v := 4) hT dX2_passNumber_5 rfl ?_
      refine J_icmp_ge (tgt := 62) hT dX2_passNumber_6 (by decide) (fun _ => ?_) (fun q => absurd (nI_le (a := 4) (b := i) (by omega) (by omega)) q)
      exact fin i (by rw [he]; rfl) _
    | succ f ih =>
      intro i hi he
      rw [ndF_s S L (p + i) f] at he
      have hpi : p + i ≤ 30 := by split at he <;> omega
      cases hfg : figB (ltr S L (p + i)) with
      | false =>
        rw [if_neg (fun q => by rw [ltr_in q.1, q.2] at hfg; exact absurd hfg (by decide))] at he
        refine J_iload_n (i := 2) hT dX2_passNumber_4 rfl rfl ?_
        refine J_iconst (v := 4) hT dX2_passNumber_5 rfl ?_
        refine J_icmp_ge (tgt := 62) hT dX2_passNumber_6 (by decide) (fun q => absurd q (Int32.not_le.mpr (nI_lt (a := i) (b := 4) (by omega) (by decide)))) (fun _ => ?_)
        refine J_aload_n (i := 0) hT dX2_passNumber_9 rfl rfl ?_
        refine R_getP hT fX2_29 rfl dX2_passNumber_10 hH.k3 hH.q30 ?_
        refine J_aload_n (i := 0) hT dX2_passNumber_13 rfl rfl ?_
        refine R_getI hT fX2_22 rfl dX2_passNumber_14 hH.k3 ?_
        refine J_topil ((zu_eq _ _ _ _)) ?_
        refine R_callV1 (ci := 7) hY dX2_passNumber_17 mfX7_letterAt miX7_letterAt msX7_letterAt kX2_62 ⟨by decide, rfl⟩ hH.k1 (c_X7_letterAt hZ hH (hX.mv (zPf.u3 _ _ _)) (p := p + i) (by omega)) rfl (by decide) rfl rfl (Nat.le_of_ble_eq_true rfl) (Nat.le_refl _) (Nat.le_refl _) ?_
        refine R_callS1 hY dX2_passNumber_20 mfX8_isFigure mtX8_isFigure kX2_80 (c_X8_isFigure hZ) rfl (by decide) rfl rfl (Nat.le_of_ble_eq_true rfl) (Nat.le_refl _) (Nat.le_refl _) ?_
        refine J_if_eq (tgt := 62) hT dX2_passNumber_23 (by decide) (fun _ => ?_) (fun q => absurd ((by rw [hfg]; rfl)) q)
        exact fin i (by omega) _
      | true =>
        have hq := figB_in hfg
        rw [if_pos hq] at he
        refine J_iload_n (i := 2) hT dX2_passNumber_4 rfl rfl ?_
        refine J_iconst (v := 4) hT dX2_passNumber_5 rfl ?_
        refine J_icmp_ge (tgt := 62) hT dX2_passNumber_6 (by decide) (fun q => absurd q (Int32.not_le.mpr (nI_lt (a := i) (b := 4) (by omega) (by decide)))) (fun _ => ?_)
        refine J_aload_n (i := 0) hT dX2_passNumber_9 rfl rfl ?_
        refine R_getP hT fX2_29 rfl dX2_passNumber_10 hH.k3 hH.q30 ?_
        refine J_aload_n (i := 0) hT dX2_passNumber_13 rfl rfl ?_
        refine R_getI hT fX2_22 rfl dX2_passNumber_14 hH.k3 ?_
        refine J_topil ((zu_eq _ _ _ _)) ?_
        refine R_callV1 (ci := 7) hY dX2_passNumber_17 mfX7_letterAt miX7_letterAt msX7_letterAt kX2_62 ⟨by decide, rfl⟩ hH.k1 (c_X7_letterAt hZ hH (hX.mv (zPf.u3 _ _ _)) (p := p + i) (by omega)) rfl (by decide) rfl rfl (Nat.le_of_ble_eq_true rfl) (Nat.le_refl _) (Nat.le_refl _) ?_
        refine R_callS1 hY dX2_passNumber_20 mfX8_isFigure mtX8_isFigure kX2_80 (c_X8_isFigure hZ) rfl (by decide) rfl rfl (Nat.le_of_ble_eq_true rfl) (Nat.le_refl _) (Nat.le_refl _) ?_
        refine J_if_eq (tgt := 62) hT dX2_passNumber_23 (by decide) (fun q => absurd q ((by rw [hfg]; decide))) (fun _ => ?_)
        refine J_iload_n (i := 1) hT dX2_passNumber_26 rfl rfl ?_
        refine J_bipush (v := 10) hT dX2_passNumber_27 rfl ?_
        refine J_imul hT dX2_passNumber_29 ?_
        refine J_aload_n (i := 0) hT dX2_passNumber_30 rfl rfl ?_
        refine R_getP hT fX2_29 rfl dX2_passNumber_31 hH.k3 hH.q30 ?_
        refine J_aload_n (i := 0) hT dX2_passNumber_34 rfl rfl ?_
        refine R_getI hT fX2_22 rfl dX2_passNumber_35 hH.k3 ?_
        refine J_topil ((zu_eq _ _ _ _)) ?_
        refine R_callV1 (ci := 7) hY dX2_passNumber_38 mfX7_letterAt miX7_letterAt msX7_letterAt kX2_62 ⟨by decide, rfl⟩ hH.k1 (c_X7_letterAt hZ hH (hX.mv (zPf.u3 _ _ _)) (p := p + i) (by omega)) rfl (by decide) rfl rfl (Nat.le_of_ble_eq_true rfl) (Nat.le_refl _) (Nat.le_refl _) ?_
        refine J_topil ((ltr_in hq.1)) ?_
        refine J_bipush (v := 48) hT dX2_passNumber_41 rfl ?_
        refine J_isub hT dX2_passNumber_43 ?_
        refine J_iadd hT dX2_passNumber_44 ?_
        refine J_topil (show nI (nvF S p i) * 10 + (S 68 (p + i) - 48) = nI (nvF S p (i + 1)) from nv_sc hq.2) ?_
        refine S_istore1 hT dX2_passNumber_45 rfl rfl ?_
        refine J_aload_n (i := 0) hT dX2_passNumber_46 rfl rfl ?_
        refine J_dup hT dX2_passNumber_47 rfl ?_
        refine R_getI hT fX2_22 rfl dX2_passNumber_48 hH.k3 ?_
        refine J_topil ((zu_eq _ _ _ _)) ?_
        refine J_iconst (v := 1) hT dX2_passNumber_51 rfl ?_
        refine J_iadd hT dX2_passNumber_52 ?_
        refine J_topil ((nI_1 _)) ?_
        refine R_putI hT fX2_22 rfl rfl dX2_passNumber_53 hH.k3 ?_
        refine S_iinc2 hT dX2_passNumber_56 (nI_inc _) rfl ?_
        refine J_goto (tgt := 4) hT dX2_passNumber_59 (by decide) ?_
        refine J_mu (congrArg (fun s => zA4 μ s π g) (zu_zu _ _ _ _ _)) ?_
        exact ih (i + 1) (by omega) (by rw [show p + (i + 1) = p + i + 1 by omega]; omega)
  refine J_iconst (v := 0) hT dX2_passNumber_0 rfl ?_
  refine S_istore1 hT dX2_passNumber_1 rfl rfl ?_
  refine J_iconst (v := 0) hT dX2_passNumber_2 rfl ?_
  refine S_istore2 hT dX2_passNumber_3 rfl rfl ?_
  refine J_mu (congrArg (fun s => zA4 μ s π g) (show σ = zu σ 3 4 (nI (p + 0)) from (zu_id h4).symm)) ?_
  exact loop 4 0 rfl (by rw [Nat.add_zero, Nat.zero_add])


