theorem im_out {t f : Nat} (ht : ta t) (hf : Im f) : f < t ∨ f = t + 1 ∨ f = t + 2 ∨ t + 30 ≤ f := by
  unfold Im at hf; unfold ta at ht; omega
theorem dM.ext {m : Int32} {S S' : zS2} (h : dM m S) (hS : ∀ j, j < 12 → decide (S' 89 j ≠ 0) = decide (S 89 j ≠ 0)) : dM m S' := fun i hi => by
  rw [h i hi]
  by_cases h12 : i < 12
  · rw [hS i h12]
  · simp [h12]
theorem dM.or {m : Int32} {S S' : zS2} (h : dM m S) {i : Nat} (hi : i < 12) (hS : ∀ j, j < 12 → decide (S' 89 j ≠ 0) = (decide (S 89 j ≠ 0) || decide (j = i))) : dM (m ||| (1 : Int32) <<< (nI i &&& 31)) S' := fun j hj => by
  rw [b_or, b_one i (by omega) hj, h j hj]
  by_cases h12 : j < 12
  · rw [hS j h12]; simp [h12]
  · have : j ≠ i := by omega
    simp [h12, this]
theorem b_not (x : Int32) {i : Nat} (hi : i < 32) : bt (x ^^^ (-1)) i = !bt x i := by rw [b_xor, b_m1 i hi]; cases bt x i <;> rfl
theorem dM.no {m : Int32} {S S' : zS2} (h : dM m S) {i : Nat} (hi : i < 12) (hS : ∀ j, j < 12 → decide (S' 89 j ≠ 0) = (decide (S 89 j ≠ 0) && !decide (j = i))) : dM (m &&& ((1 : Int32) <<< (nI i &&& 31) ^^^ (-1))) S' := fun j hj => by
  rw [b_and, b_not _ hj, b_one i (by omega) hj, h j hj]
  by_cases h12 : j < 12
  · rw [hS j h12]; simp [h12]
  · simp [h12]
theorem dM_0 {m : Int32} {S : zS2} (h : dM m S) : m = 0 ↔ ∀ j, j < 12 → S 89 j = 0 := by
  constructor
  · intro e j hj
    have := h j (by omega)
    rw [e, b_0] at this
    simpa [hj] using this.symm
  · intro e
    apply b_ext
    intro j hj
    rw [h j hj, b_0]
    by_cases h12 : j < 12
    · simp [e j h12]
    · simp [h12]
theorem zbi_d (b : Bool) : decide (zbi b ≠ 0) = b := by cases b <;> decide
theorem soil_0 {m : Int32} {S : zS2} {rk w i : Nat} (h : dM m (soilP S rk w i)) (hv : (decide (S 80 i = 0) && bt (S rk i) w) = false) : dM m (soilP S rk w (i + 1)) := h.ext fun j hj => by
  by_cases e : j < i
  · simp [soilP, e, show j < i + 1 by omega]
  · by_cases e2 : j = i
    · subst e2
      have : soilP S rk w (j + 1) 89 j = zbi (decide (S 89 j ≠ 0) || (decide (S 80 j = 0) && bt (S rk j) w)) := by simp [soilP]
      rw [this, hv, soilP_ge _ _ _ _ (Nat.le_refl _), zbi_d, Bool.or_false]
    · rw [soilP_ge _ _ _ _ (show i + 1 ≤ j by omega), soilP_ge _ _ _ _ (show i ≤ j by omega)]
theorem soil_1 {m : Int32} {S : zS2} {rk w i : Nat} (hi : i < 12) (h : dM m (soilP S rk w i)) (hv : (decide (S 80 i = 0) && bt (S rk i) w) = true) : dM (m ||| (1 : Int32) <<< (nI i &&& 31)) (soilP S rk w (i + 1)) := h.or hi fun j hj => by
  by_cases e : j < i
  · have : j ≠ i := by omega
    simp [soilP, e, show j < i + 1 by omega, this]
  · by_cases e2 : j = i
    · subst e2
      have : soilP S rk w (j + 1) 89 j = zbi (decide (S 89 j ≠ 0) || (decide (S 80 j = 0) && bt (S rk j) w)) := by simp [soilP]
      rw [this, hv, zbi_d]
      simp
    · rw [soilP_ge _ _ _ _ (show i + 1 ≤ j by omega), soilP_ge _ _ _ _ (show i ≤ j by omega)]
      simp [e2]
theorem zE.ret {t : Nat} {μ : zMem} {σ σ' : zS2} {π π' : zP2} {g : zG2} {S' : zS2} (h : mo t μ σ' π' S') (h1 : zfT t σ σ') (h2 : π' = π) (h3 : zch t σ σ') : zE t μ σ π g S' (zA4 μ σ' π' g) := ⟨σ', π', rfl, h, h1, h2, h3⟩
theorem mo.soil {t : Nat} (ht : ta t) {μ : zMem} {σ : zS2} {π : zP2} {S : zS2} (h : mo t μ σ π S) {rk w : Nat} {m : Int32} (hm : dM m (soilF S rk w)) : mo t μ (zu σ t 6 m) π (soilF S rk w) :=
  ⟨h.1.ud ht hm (fun b hb j => soilF_ne S rk w hb j), h.2.mv (fun _ => rfl) (fun c _ => soilF_ne S rk w (by decide) c)⟩

set_option maxRecDepth 100000 in
set_option maxHeartbeats 4000000 in
theorem c_X6_cellValue {l : Launch} {Z : zZ} (hZ : zSt l Z) {μ : zMem} {σ : zS2} {π : zP2} {g : zG2} {t : Nat} (ht : ta t) {S : zS2} (hM : mo t μ σ π S) {c : Nat} (hc : c < 12) {o : Int32} : zCt l Z mX6_cellValue 0 0 0 [.ref t, .int (nI c), .int o] (zA4 μ σ π g) (fun r μ' => r = some (.int (S 88 c)) ∧ μ' = zA4 μ σ π g) := by
  refine zCt_of hZ mpX6_cellValue (Nat.le_of_ble_eq_true rfl) (L := [some (.ref t), some (.int (nI c)), some (.int o)]) rfl (fun τ hY => ?_)
  have hT := hY.1
  have hB := hM.1.tb
  refine J_iload_n (i := 1) hT dX6_cellValue_0 rfl rfl ?_
  refine J_if_lt (tgt := 25) hT dX6_cellValue_1 (by decide) (fun q => absurd q (nI_n0 hc)) (fun _ => ?_)
  refine J_iload_n (i := 1) hT dX6_cellValue_4 rfl rfl ?_
  refine J_aload_n (i := 0) hT dX6_cellValue_5 rfl rfl ?_
  refine R_getP hT fX6_22 rfl dX6_cellValue_6 hB.k hB.p1 ?_
  refine R_alen hT dX6_cellValue_9 (by rw [hB.k3]; decide) hB.l3 ?_
  refine J_icmp_ge (tgt := 25) hT dX6_cellValue_10 (by decide) (fun q => absurd q (Int32.not_le.mpr (nI_lt (a := c) (b := 12) (by omega) (by decide)))) (fun _ => ?_)
  refine J_aload_n (i := 0) hT dX6_cellValue_13 rfl rfl ?_
  refine R_getP hT fX6_22 rfl dX6_cellValue_14 hB.k hB.p1 ?_
  refine J_iload_n (i := 1) hT dX6_cellValue_17 rfl rfl ?_
  refine R_aald1 hT dX6_cellValue_18 hB.k3 (by decide) hB.l3 (by first | exact ⟨rfl, by decide⟩ | exact zix_nI (by omega) (by decide) | assumption) (hB.pc hc) ?_
  refine R_getI hT fX6_65 rfl dX6_cellValue_19 (hB.kc hc) ?_
  refine J_topil (hM.1.val hc) ?_
  refine J_goto (tgt := 26) hT dX6_cellValue_22 (by decide) ?_
  exact J_iret hT dX6_cellValue_26 rfl rfl (⟨rfl, rfl⟩) (Nat.le_refl _) (Nat.le_refl _)

set_option maxRecDepth 100000 in
set_option maxHeartbeats 4000000 in
theorem c_X6_cellValueN {l : Launch} {Z : zZ} (hZ : zSt l Z) {μ : zMem} {σ : zS2} {π : zP2} {g : zG2} {t : Nat} (ht : ta t) {S : zS2} (hM : mo t μ σ π S) {o : Int32} : zCt l Z mX6_cellValue 0 0 0 [.ref t, .int (-1), .int o] (zA4 μ σ π g) (fun r μ' => r = some (.int o) ∧ μ' = zA4 μ σ π g) := by
  refine zCt_of hZ mpX6_cellValue (Nat.le_of_ble_eq_true rfl) (L := [some (.ref t), some (.int (-1)), some (.int o)]) rfl (fun τ hY => ?_)
  have hT := hY.1
  have hB := hM.1.tb
  refine J_iload_n (i := 1) hT dX6_cellValue_0 rfl rfl ?_
  refine J_if_lt (tgt := 25) hT dX6_cellValue_1 (by decide) (fun _ => ?_) (fun q => absurd (by decide) q)
  refine J_iload_n (i := 2) hT dX6_cellValue_25 rfl rfl ?_
  exact J_iret hT dX6_cellValue_26 rfl rfl (⟨rfl, rfl⟩) (Nat.le_refl _) (Nat.le_refl _)

set_option maxRecDepth 100000 in
set_option maxHeartbeats 4000000 in
theorem c_X6_soilReaders {l : Launch} {Z : zZ} (hZ : zSt l Z) {μ : zMem} {σ : zS2} {π : zP2} {g : zG2} {t : Nat} (ht : ta t) {S : zS2} (hM : mo t μ σ π S) {rd rk w : Nat} (hrd : rd < 32) (hbit : ∀ c, c < 12 → ∀ f, π (t + 8 + c) 1 = some f → bt (σ f 1) rd = bt (S rk c) w) : zCt l Z mX6_soilReaders 1 0 0 [.ref t, .int (nI rd)] (zA4 μ σ π g) (fun r μ' => r = none ∧ zE t μ σ π g (soilF S rk w) μ') := by
  refine zCt_of hZ mpX6_soilReaders (Nat.le_of_ble_eq_true rfl) (L := [some (.ref t), some (.int (nI rd)), none, none, none, none]) rfl (fun τ hY => ?_)
  have hT := hY.1
  have hB := hM.1.tb
  have loop : ∀ n i, i + n = 12 → ∀ m, dM m (soilP S rk w i) → zJ τ (zFn τ (fun r μ' => r = none ∧ zE t μ σ π g (soilF S rk w) μ') 0 0) 11 [some (.ref t), some (.int (nI rd)), some (.ref (t + 3)), some (.int (nI 12)), some (.int (nI i)), none] [] (zA4 μ (zu σ t 6 m) π g) 0 0 := by
    intro n
    induction n with
    | zero =>
      intro i hi
      have : i = 12 := by omega
      subst this
      intro m hm
      refine J_iload (i := 4) hT dX6_soilReaders_11 rfl ?_
      refine J_iload_n (i := 3) hT dX6_soilReaders_13 rfl rfl ?_
      refine J_icmp_ge (tgt := 69) hT dX6_soilReaders_14 (by decide) (fun _ => ?_) (fun q => absurd (nI_le (a := 12) (b := 12) (by decide) (by decide)) q)
      exact J_vret hT dX6_soilReaders_69 rfl (⟨rfl, zE.ret (hM.soil ht hm) (zfT_u (Or.inl rfl)) rfl (zch_u (by decide))⟩) (Nat.le_refl _) (Nat.le_refl _)
    | succ n ih =>
      intro i hi
      intro m hm
      have hi12 : i < 12 := by omega
      obtain ⟨f, hf, hF⟩ := hM.1.fm hi12
      have hfo := im_out ht hF.1
      have hb := hbit i hi12 f hf
      refine J_iload (i := 4) hT dX6_soilReaders_11 rfl ?_
      refine J_iload_n (i := 3) hT dX6_soilReaders_13 rfl rfl ?_
      refine J_icmp_ge (tgt := 69) hT dX6_soilReaders_14 (by decide) (fun q => absurd q (Int32.not_le.mpr (nI_lt (a := i) (b := 12) (by omega) (by decide)))) (fun _ => ?_)
      refine J_aload_n (i := 2) hT dX6_soilReaders_17 rfl rfl ?_
      refine J_iload (i := 4) hT dX6_soilReaders_18 rfl ?_
      refine R_aald1 hT dX6_soilReaders_20 hB.k3 (by decide) hB.l3 (by first | exact ⟨rfl, by decide⟩ | exact zix_nI (by omega) (by decide) | assumption) (hB.pc hi12) ?_
      refine S_astore5 hT dX6_soilReaders_21 rfl ?_
      refine J_aload (i := 5) hT dX6_soilReaders_23 rfl ?_
      refine R_getI hT fX6_68 rfl dX6_soilReaders_25 (hB.kc hi12) ?_
      refine J_topil ((zu_n _ _ _ _ (by omega)).trans (hM.1.held hi12)) ?_
      refine J_if_ne (tgt := 63) hT dX6_soilReaders_28 (by decide) (fun q28 => ?_) (fun q28 => ?_)
      · refine S_iinc4 hT dX6_soilReaders_63 (nI_inc _) rfl ?_
        refine J_goto (tgt := 11) hT dX6_soilReaders_66 (by decide) ?_
        refine J_L (L' := [_, _, _, _, _, none]) (zsub_keep (zsub_keep (zsub_keep (zsub_keep (zsub_keep (zsub_drop (zsub_refl _))))))) ?_
        first
          | exact ih (i + 1) (by omega) m (soil_0 hm (by rw [← hb]; first | (simp [q28]; done) | (simp [zbi_0.mp q43]; done)))
          | exact J_mu (congrArg (fun s => zA4 μ s π g) (zu_zu σ t 6 m _)) (ih (i + 1) (by omega) _ (soil_1 hi12 hm (by rw [← hb]; simp [q28, zbi_ne.mp q43])))
      · refine J_aload (i := 5) hT dX6_soilReaders_31 rfl ?_
        refine R_getP hT fX6_62 rfl dX6_soilReaders_33 (hB.kc hi12) hf ?_
        refine R_getI hT fX6_196 rfl dX6_soilReaders_36 hF.2.2.1 ?_
        refine J_topil (zu_n _ _ _ _ (by omega)) ?_
        refine J_iload_n (i := 1) hT dX6_soilReaders_39 rfl rfl ?_
        refine R_callS1 hY dX6_soilReaders_40 mfX8_has mtX8_has kX6_184 (c_X8_has hZ hrd) rfl (by decide) rfl rfl (Nat.le_of_ble_eq_true rfl) (Nat.le_refl _) (Nat.le_refl _) ?_
        refine J_if_eq (tgt := 63) hT dX6_soilReaders_43 (by decide) (fun q43 => ?_) (fun q43 => ?_)
        · refine S_iinc4 hT dX6_soilReaders_63 (nI_inc _) rfl ?_
          refine J_goto (tgt := 11) hT dX6_soilReaders_66 (by decide) ?_
          refine J_L (L' := [_, _, _, _, _, none]) (zsub_keep (zsub_keep (zsub_keep (zsub_keep (zsub_keep (zsub_drop (zsub_refl _))))))) ?_
          first
            | exact ih (i + 1) (by omega) m (soil_0 hm (by rw [← hb]; first | (simp [q28]; done) | (simp [zbi_0.mp q43]; done)))
            | exact J_mu (congrArg (fun s => zA4 μ s π g) (zu_zu σ t 6 m _)) (ih (i + 1) (by omega) _ (soil_1 hi12 hm (by rw [← hb]; simp [q28, zbi_ne.mp q43])))
        · refine J_aload_n (i := 0) hT dX6_soilReaders_46 rfl rfl ?_
          refine J_dup hT dX6_soilReaders_47 rfl ?_
          refine R_getI hT fX6_45 rfl dX6_soilReaders_48 hB.k ?_
          refine J_topil (zu_eq _ _ _ _) ?_
          refine J_aload (i := 5) hT dX6_soilReaders_51 rfl ?_
          refine R_getI hT fX6_130 rfl dX6_soilReaders_53 (hB.kc hi12) ?_
          refine J_topil ((zu_n _ _ _ _ (by omega)).trans (hM.1.nc hi12)) ?_
          refine R_callS1 hY dX6_soilReaders_56 mfX8_bit mtX8_bit kX6_83 (c_X8_bit hZ) rfl (by decide) rfl rfl (Nat.le_of_ble_eq_true rfl) (Nat.le_refl _) (Nat.le_refl _) ?_
          refine J_ior hT dX6_soilReaders_59 ?_
          refine R_putI hT fX6_45 rfl rfl dX6_soilReaders_60 hB.k ?_
          refine S_iinc4 hT dX6_soilReaders_63 (nI_inc _) rfl ?_
          refine J_goto (tgt := 11) hT dX6_soilReaders_66 (by decide) ?_
          refine J_L (L' := [_, _, _, _, _, none]) (zsub_keep (zsub_keep (zsub_keep (zsub_keep (zsub_keep (zsub_drop (zsub_refl _))))))) ?_
          first
            | exact ih (i + 1) (by omega) m (soil_0 hm (by rw [← hb]; first | (simp [q28]; done) | (simp [zbi_0.mp q43]; done)))
            | exact J_mu (congrArg (fun s => zA4 μ s π g) (zu_zu σ t 6 m _)) (ih (i + 1) (by omega) _ (soil_1 hi12 hm (by rw [← hb]; simp [q28, zbi_ne.mp q43])))
  refine J_mu (congrArg (fun s => zA4 μ s π g) (zu_self (σ := σ) (a := t) (i := 6) rfl).symm) ?_
  refine J_aload_n (i := 0) hT dX6_soilReaders_0 rfl rfl ?_
  refine R_getP hT fX6_22 rfl dX6_soilReaders_1 hB.k hB.p1 ?_
  refine S_astore2 hT dX6_soilReaders_4 rfl rfl ?_
  refine J_aload_n (i := 2) hT dX6_soilReaders_5 rfl rfl ?_
  refine R_alen hT dX6_soilReaders_6 (by rw [hB.k3]; decide) hB.l3 ?_
  refine S_istore3 hT dX6_soilReaders_7 rfl rfl ?_
  refine J_iconst (v := 0) hT dX6_soilReaders_8 rfl ?_
  refine S_istore4 hT dX6_soilReaders_9 rfl ?_
  exact loop 12 0 rfl _ (hM.1.d.ext fun j _ => by rw [soilP_0])


