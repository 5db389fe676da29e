/-! ===== the class's type ===== -/
set_option maxRecDepth 100000 in
set_option maxHeartbeats 4000000 in
theorem c_X8_type {l : Launch} {Z : zZ} (hZ : zSt l Z) {μ : zMem} {σ : zS2} {π : zP2} {g : zG2} {n : Nat} {S : zS2} (hSs : zSs Z) (hC : CW n S μ σ π) {L : Nat} (hL : TX L S) (h30 : L < 30) {a : Int32} (ha : letB a = true) : zCt l Z mX8_type 6 0 0 [.ref 0, .int a] (zA4 μ σ π g) (fun r μ' => r = some (.int (nI (L + 1))) ∧ ∃ σ', μ' = zA4 μ σ' π g ∧ CW n (zu (zu S 68 L a) 67 1 (nI (L + 1))) μ σ' π ∧ zPf2 σ σ') := by
  refine zCt_of hZ mpX8_type (Nat.le_of_ble_eq_true rfl) (L := [some (.ref 0), some (.int a)]) rfl (fun τ hY => ?_)
  have hT := hY.1
  have hH := hC.ph
  have hX7 := hC.txx hL
  have tx2 : ∀ i, i < 30 → zu (zu σ 2 L a) 1 1 (nI (L + 1)) 2 i = zu (zu S 68 L a) 67 1 (nI (L + 1)) 68 i := fun i hi => by
    refine (zu_ne _ _ _ _ (by decide) i).trans (Eq.trans ?_ (zu_ne _ _ _ _ (by decide) i).symm)
    by_cases q : i = L
    · subst q; rw [zu_eq, zu_eq]
    · rw [zu_nj _ _ _ _ _ q, zu_nj _ _ _ _ _ q]; exact hC.tx hi
  by_cases hfg : figB a = true
  · refine J_iload_n (i := 1) hT dX8_type_0 rfl rfl ?_
    refine R_callS1 hY dX8_type_1 mfX8_isFigure mtX8_isFigure kX8_52 (c_X8_isFigure hZ) rfl (by decide) rfl rfl (Nat.le_of_ble_eq_true rfl) (by decide) (by decide) ?_
    refine J_if_ne (tgt := 26) hT dX8_type_4 (by decide) (fun _ => ?_) (fun q => absurd q (by rw [hfg]; decide))
    refine J_aload_n (i := 0) hT dX8_type_26 rfl rfl ?_
    refine R_getP hT fX8_12 rfl dX8_type_27 hC.k0 hC.p0 ?_
    refine R_callV1 (ci := 7) hY dX8_type_30 mfX7_isFull miX7_isFull msX7_isFull kX8_71 ⟨by decide, rfl⟩ hH.k1 (c_X7_isFull0 hZ hH hX7 h30) rfl (by decide) rfl rfl (Nat.le_of_ble_eq_true rfl) (by decide) (by decide) ?_
    refine J_if_eq (tgt := 46) hT dX8_type_33 (by decide) (fun _ => ?_) (fun q => absurd (rfl) q)
    refine J_aload_n (i := 0) hT dX8_type_46 rfl rfl ?_
    refine R_getP hT fX8_12 rfl dX8_type_47 hC.k0 hC.p0 ?_
    refine J_iload_n (i := 1) hT dX8_type_50 rfl rfl ?_
    refine R_callV0 (ci := 7) hY dX8_type_51 mfX7_add miX7_add msX7_add kX8_80 ⟨by decide, rfl⟩ hH.k1 (c_X7_add hZ hH hX7 h30 (chV_let ha)) rfl (by decide) rfl rfl (Nat.le_of_ble_eq_true rfl) (by decide) (by decide) ?_
    refine J_aload_n (i := 0) hT dX8_type_54 rfl rfl ?_
    refine R_getP hT fX8_12 rfl dX8_type_55 hC.k0 hC.p0 ?_
    refine R_getI hT fX8_84 rfl dX8_type_58 hH.k1 ?_
    refine J_topil ((zu_eq _ _ _ _)) ?_
    exact J_iret hT dX8_type_61 rfl rfl (⟨rfl, _, rfl, hC.text (fun b j h1 h2 => (zu_ne _ _ _ _ h1 j).trans (zu_ne _ _ _ _ h2 j)) (fun b j h8 h67 => (zu_off h67).trans (zu_ne _ _ _ _ h8 j)) ((zu_eq _ _ _ _).trans (zu_eq _ _ _ _).symm) tx2, fun b j h1 h2 => (zu_ne _ _ _ _ h1 j).trans (zu_ne _ _ _ _ h2 j)⟩) (Nat.le_refl _) (Nat.le_refl _)
  · have hm : ¬ ixF a ltrs 0 < 0 := fun q => (ixF_lt a ltrs 0 (by decide)).mp q ((let_in.mp ha).resolve_left hfg)
    refine J_iload_n (i := 1) hT dX8_type_0 rfl rfl ?_
    refine R_callS1 hY dX8_type_1 mfX8_isFigure mtX8_isFigure kX8_52 (c_X8_isFigure hZ) rfl (by decide) rfl rfl (Nat.le_of_ble_eq_true rfl) (by decide) (by decide) ?_
    refine J_if_ne (tgt := 26) hT dX8_type_4 (by decide) (fun q => absurd (by rw [Bool.eq_false_iff.mpr hfg]; rfl) q) (fun _ => ?_)
    refine J_indexOf hZ hY hSs rfl dX8_type_7 dX8_type_9 dX8_type_10 rfl rfl (by decide) (by decide) (by decide) (by decide) ?_
    refine J_if_ge (tgt := 26) hT dX8_type_13 (by decide) (fun _ => ?_) (fun q => absurd (Int32.not_lt.mp hm) q)
    refine J_aload_n (i := 0) hT dX8_type_26 rfl rfl ?_
    refine R_getP hT fX8_12 rfl dX8_type_27 hC.k0 hC.p0 ?_
    refine R_callV1 (ci := 7) hY dX8_type_30 mfX7_isFull miX7_isFull msX7_isFull kX8_71 ⟨by decide, rfl⟩ hH.k1 (c_X7_isFull0 hZ hH hX7 h30) rfl (by decide) rfl rfl (Nat.le_of_ble_eq_true rfl) (by decide) (by decide) ?_
    refine J_if_eq (tgt := 46) hT dX8_type_33 (by decide) (fun _ => ?_) (fun q => absurd (rfl) q)
    refine J_aload_n (i := 0) hT dX8_type_46 rfl rfl ?_
    refine R_getP hT fX8_12 rfl dX8_type_47 hC.k0 hC.p0 ?_
    refine J_iload_n (i := 1) hT dX8_type_50 rfl rfl ?_
    refine R_callV0 (ci := 7) hY dX8_type_51 mfX7_add miX7_add msX7_add kX8_80 ⟨by decide, rfl⟩ hH.k1 (c_X7_add hZ hH hX7 h30 (chV_let ha)) rfl (by decide) rfl rfl (Nat.le_of_ble_eq_true rfl) (by decide) (by decide) ?_
    refine J_aload_n (i := 0) hT dX8_type_54 rfl rfl ?_
    refine R_getP hT fX8_12 rfl dX8_type_55 hC.k0 hC.p0 ?_
    refine R_getI hT fX8_84 rfl dX8_type_58 hH.k1 ?_
    refine J_topil ((zu_eq _ _ _ _)) ?_
    exact J_iret hT dX8_type_61 rfl rfl (⟨rfl, _, rfl, hC.text (fun b j h1 h2 => (zu_ne _ _ _ _ h1 j).trans (zu_ne _ _ _ _ h2 j)) (fun b j h8 h67 => (zu_off h67).trans (zu_ne _ _ _ _ h8 j)) ((zu_eq _ _ _ _).trans (zu_eq _ _ _ _).symm) tx2, fun b j h1 h2 => (zu_ne _ _ _ _ h1 j).trans (zu_ne _ _ _ _ h2 j)⟩) (Nat.le_refl _) (Nat.le_refl _)

set_option maxRecDepth 100000 in
set_option maxHeartbeats 4000000 in
theorem x_X8_type_1 {l : Launch} {Z : zZ} (hZ : zSt l Z) {μ : zMem} {σ : zS2} {π : zP2} {g : zG2} {n : Nat} {S : zS2} (hSs : zSs Z) (hC : CW n S μ σ π) (hX : zXs Z) {L : Nat} (hL : TX L S) {a : Int32} (ha : letB a = false) : zCtX l Z mX8_type 6 1 6 [.ref 0, .int a] (zA4 μ σ π g) "java/lang/IllegalArgumentException" (fun μ' => μ' = zA4 μ σ π g) := by
  refine zCtX_of hZ mpX8_type (Nat.le_of_ble_eq_true rfl) (L := [some (.ref 0), some (.int a)]) rfl (fun τ hYX => ?_)
  have hY := hYX.1
  have hT := hY.1
  have hH := hC.ph
  have hX7 := hC.txx hL
  have hfg : figB a = false := by
    cases h : figB a with
    | false => rfl
    | true => rw [let_in.mpr (Or.inl h)] at ha; cases ha
  have hm : ixF a ltrs 0 < 0 := (ixF_lt a ltrs 0 (by decide)).mpr (fun q => by rw [let_in.mpr (Or.inr q)] at ha; cases ha)
  refine J_iload_n (i := 1) hT dX8_type_0 rfl rfl ?_
  refine R_callS1 hY dX8_type_1 mfX8_isFigure mtX8_isFigure kX8_52 (c_X8_isFigure hZ) rfl (by decide) rfl rfl (Nat.le_of_ble_eq_true rfl) (by decide) (by decide) ?_
  refine J_if_ne (tgt := 26) hT dX8_type_4 (by decide) (fun q => absurd (by rw [hfg]; rfl) q) (fun _ => ?_)
  refine J_indexOf hZ hY hSs rfl dX8_type_7 dX8_type_9 dX8_type_10 rfl rfl (by decide) (by decide) (by decide) (by decide) ?_
  refine J_if_ge (tgt := 26) hT dX8_type_13 (by decide) (fun q => absurd q (Int32.not_le.mpr hm)) (fun _ => ?_)
  exact J_throw_iae hYX hX rfl (tx := "no letter of formulas") (by decide) dX8_type_16 dX8_type_19 dX8_type_20 dX8_type_22 dX8_type_25 rfl (by decide) (rfl) (by first | exact Nat.le_refl _ | decide | omega) (by first | exact Nat.le_refl _ | decide | omega)

set_option maxRecDepth 100000 in
set_option maxHeartbeats 4000000 in
theorem x_X8_type_2 {l : Launch} {Z : zZ} (hZ : zSt l Z) {μ : zMem} {σ : zS2} {π : zP2} {g : zG2} {n : Nat} {S : zS2} (hSs : zSs Z) (hC : CW n S μ σ π) (hX : zXs Z) {L : Nat} (hL : TX L S) (h30 : 30 ≤ L) {a : Int32} (ha : letB a = true) : zCtX l Z mX8_type 6 1 6 [.ref 0, .int a] (zA4 μ σ π g) "java/lang/IllegalStateException" (fun μ' => μ' = zA4 μ σ π g) := by
  refine zCtX_of hZ mpX8_type (Nat.le_of_ble_eq_true rfl) (L := [some (.ref 0), some (.int a)]) rfl (fun τ hYX => ?_)
  have hY := hYX.1
  have hT := hY.1
  have hH := hC.ph
  have hX7 := hC.txx hL
  by_cases hfg : figB a = true
  · refine J_iload_n (i := 1) hT dX8_type_0 rfl rfl ?_
    refine R_callS1 hY dX8_type_1 mfX8_isFigure mtX8_isFigure kX8_52 (c_X8_isFigure hZ) rfl (by decide) rfl rfl (Nat.le_of_ble_eq_true rfl) (by decide) (by decide) ?_
    refine J_if_ne (tgt := 26) hT dX8_type_4 (by decide) (fun _ => ?_) (fun q => absurd q (by rw [hfg]; decide))
    refine J_aload_n (i := 0) hT dX8_type_26 rfl rfl ?_
    refine R_getP hT fX8_12 rfl dX8_type_27 hC.k0 hC.p0 ?_
    refine R_callV1 (ci := 7) hY dX8_type_30 mfX7_isFull miX7_isFull msX7_isFull kX8_71 ⟨by decide, rfl⟩ hH.k1 (c_X7_isFull1 hZ hH hX7 h30) rfl (by decide) rfl rfl (Nat.le_of_ble_eq_true rfl) (by decide) (by decide) ?_
    refine J_if_eq (tgt := 46) hT dX8_type_33 (by decide) (fun q => absurd q (by decide)) (fun _ => ?_)
    exact J_throw_ise hYX hX rfl (tx := "the text is full") (by decide) dX8_type_36 dX8_type_39 dX8_type_40 dX8_type_42 dX8_type_45 rfl (by decide) (rfl) (by first | exact Nat.le_refl _ | decide | omega) (by first | exact Nat.le_refl _ | decide | omega)
  · have hm : ¬ ixF a ltrs 0 < 0 := fun q => (ixF_lt a ltrs 0 (by decide)).mp q ((let_in.mp ha).resolve_left hfg)
    refine J_iload_n (i := 1) hT dX8_type_0 rfl rfl ?_
    refine R_callS1 hY dX8_type_1 mfX8_isFigure mtX8_isFigure kX8_52 (c_X8_isFigure hZ) rfl (by decide) rfl rfl (Nat.le_of_ble_eq_true rfl) (by decide) (by decide) ?_
    refine J_if_ne (tgt := 26) hT dX8_type_4 (by decide) (fun q => absurd (by rw [Bool.eq_false_iff.mpr hfg]; rfl) q) (fun _ => ?_)
    refine J_indexOf hZ hY hSs rfl dX8_type_7 dX8_type_9 dX8_type_10 rfl rfl (by decide) (by decide) (by decide) (by decide) ?_
    refine J_if_ge (tgt := 26) hT dX8_type_13 (by decide) (fun _ => ?_) (fun q => absurd (Int32.not_lt.mp hm) q)
    refine J_aload_n (i := 0) hT dX8_type_26 rfl rfl ?_
    refine R_getP hT fX8_12 rfl dX8_type_27 hC.k0 hC.p0 ?_
    refine R_callV1 (ci := 7) hY dX8_type_30 mfX7_isFull miX7_isFull msX7_isFull kX8_71 ⟨by decide, rfl⟩ hH.k1 (c_X7_isFull1 hZ hH hX7 h30) rfl (by decide) rfl rfl (Nat.le_of_ble_eq_true rfl) (by decide) (by decide) ?_
    refine J_if_eq (tgt := 46) hT dX8_type_33 (by decide) (fun q => absurd q (by decide)) (fun _ => ?_)
    exact J_throw_ise hYX hX rfl (tx := "the text is full") (by decide) dX8_type_36 dX8_type_39 dX8_type_40 dX8_type_42 dX8_type_45 rfl (by decide) (rfl) (by first | exact Nat.le_refl _ | decide | omega) (by first | exact Nat.le_refl _ | decide | omega)


