theorem mo.ul {t : Nat} (ht : ta t) {μ : zMem} {σ : zS2} {π : zP2} {S : zS2} (h : mo t μ σ π S) {o f n b k : Nat} {v : Int32} (hx : (o, f, n, b) ∈ lks) (hk : k < n) (h79 : b ≠ 79) (h92 : b ≠ 92) : mo t μ (zu σ (t + o + k) f v) π (zu S b k v) :=
  ⟨h.1.ul ht hx hk (fun e => absurd e h92), h.2.mv (fun _ => rfl) (fun c _ => zu_ne _ _ _ _ (fun e => h79 e.symm) c)⟩
theorem mi.b76 {t : Nat} {μ : zMem} {σ : zS2} {π : zP2} {S : zS2} (h : mi t μ σ π S) {c f : Nat} (hc : c < 12) (hf : π (t + 8 + c) 1 = some f) {i : Nat} (hi : i < 12) : bt (σ f 1) i = bt (S 76 c) i := by
  obtain ⟨f', e, hF⟩ := h.fm hc
  cases Option.some.inj (e.symm.trans hf)
  exact hF.2.2.2.1 i hi
theorem mi.b77 {t : Nat} {μ : zMem} {σ : zS2} {π : zP2} {S : zS2} (h : mi t μ σ π S) {c f : Nat} (hc : c < 12) (hf : π (t + 8 + c) 1 = some f) {i : Nat} (hi : i < 5) : bt (σ f 1) (12 + i) = bt (S 77 c) i := by
  obtain ⟨f', e, hF⟩ := h.fm hc
  cases Option.some.inj (e.symm.trans hf)
  exact hF.2.2.2.2.1 i hi
theorem mi.b78 {t : Nat} {μ : zMem} {σ : zS2} {π : zP2} {S : zS2} (h : mi t μ σ π S) {c f : Nat} (hc : c < 12) (hf : π (t + 8 + c) 1 = some f) {i : Nat} (hi : i < 5) : bt (σ f 1) (17 + i) = bt (S 78 c) i := by
  obtain ⟨f', e, hF⟩ := h.fm hc
  cases Option.some.inj (e.symm.trans hf)
  exact hF.2.2.2.2.2.1 i hi
theorem nI_ad (a b : Nat) : nI a + nI b = nI (a + b) := by
  show Int32.ofNat a + Int32.ofNat b = Int32.ofNat (a + b)
  rw [Int32.ofNat_add]
theorem zE.mv {t : Nat} {μ μ' : zMem} {σ σ1 : zS2} {π π1 : zP2} {g : zG2} {S : zS2} (h : zE t μ σ1 π1 g S μ') (h1 : zfT t σ σ1) (h2 : π1 = π) (h3 : zch t σ σ1) : zE t μ σ π g S μ' := by
  obtain ⟨σ', π', e, hM, a, b, d⟩ := h
  exact ⟨σ', π', e, hM, h1.tr a, b.trans h2, h3.tr d⟩
theorem zmu_c {t c : Nat} (h : c < 12) : zmu t (t + 8 + c) := Or.inr (Or.inr (by omega))
theorem zmu_s {t c : Nat} (h : c < 5) : zmu t (t + 25 + c) := Or.inr (Or.inr (by omega))
theorem zmu_r {t c : Nat} (h : c < 5) : zmu t (t + 20 + c) := Or.inr (Or.inr (by omega))

set_option maxRecDepth 100000 in
set_option maxHeartbeats 4000000 in
theorem c_X6_setValue {l : Launch} {Z : zZ} (hZ : zSt l Z) {μ : zMem} {σ : zS2} {π : zP2} {g : zG2} {t : Nat} (ht : ta t) {S : zS2} (hM : mo t μ σ π S) {c : Nat} (hc : c < 12) {v : Int32} : zCt l Z mX6_setValue 2 0 0 [.ref t, .ref (t + 8 + c), .int v] (zA4 μ σ π g) (fun r μ' => r = none ∧ zE t μ σ π g (becomeF S c v) μ') := by
  refine zCt_of hZ mpX6_setValue (Nat.le_of_ble_eq_true rfl) (L := [some (.ref t), some (.ref (t + 8 + c)), some (.int v)]) rfl (fun τ hY => ?_)
  have hT := hY.1
  have hB := hM.1.tb
  have hM2 := hM.ul ht (o := 8) (f := 2) (n := 12) (b := 88) (v := v) (by decide) hc (by decide) (by decide)
  refine J_aload_n (i := 1) hT dX6_setValue_0 rfl rfl ?_
  refine R_getI hT fX6_65 rfl dX6_setValue_1 (hB.kc hc) ?_
  refine J_topil (hM.1.val hc) ?_
  refine J_iload_n (i := 2) hT dX6_setValue_4 rfl rfl ?_
  refine J_icmp_eq (tgt := 21) hT dX6_setValue_5 (by decide) (fun q5 => ?_) (fun q5 => ?_)
  · exact J_vret hT dX6_setValue_21 rfl ⟨rfl, by
          have e : becomeF S c v = S := if_pos q5
          rw [e]; exact zE.ret hM zfT.rf rfl zch.rf⟩ (Nat.le_refl _) (Nat.le_refl _)
  · refine J_aload_n (i := 1) hT dX6_setValue_8 rfl rfl ?_
    refine J_iload_n (i := 2) hT dX6_setValue_9 rfl rfl ?_
    refine R_putI hT fX6_65 rfl rfl dX6_setValue_10 (hB.kc hc) ?_
    refine J_aload_n (i := 0) hT dX6_setValue_13 rfl rfl ?_
    refine J_aload_n (i := 1) hT dX6_setValue_14 rfl rfl ?_
    refine R_getI hT fX6_130 rfl dX6_setValue_15 (hB.kc hc) ?_
    refine J_topil ((zu_n _ _ _ _ (by omega)).trans (hM.1.nc hc)) ?_
    refine J_callV (ci := 6) hY dX6_setValue_18 mfX6_soilReaders miX6_soilReaders msX6_soilReaders kX6_127 ⟨by decide, rfl⟩ hB.k (c_X6_soilReaders hZ ht hM2 (rd := c) (rk := 76) (w := c) (by omega) (fun d hd f hf => hM2.1.b76 hd hf hc)) rfl (by decide) rfl rfl (Nat.le_of_ble_eq_true rfl) (Nat.le_refl _) (Nat.le_refl _) (fun r μ1 hq1 => ?_)
    obtain ⟨rfl, hq2⟩ := hq1
    exact J_vret hT dX6_setValue_21 rfl (⟨rfl, by
          have e : becomeF S c v = soilF (zu S 88 c v) 76 c := if_neg q5
          rw [e]; exact hq2.mv (zfT_u (zmu_c hc)) rfl (zch_u (by decide))⟩) (Nat.le_refl _) (Nat.le_refl _)

set_option maxRecDepth 100000 in
set_option maxHeartbeats 4000000 in
theorem c_X6_setTold {l : Launch} {Z : zZ} (hZ : zSt l Z) {μ : zMem} {σ : zS2} {π : zP2} {g : zG2} {t : Nat} (ht : ta t) {S : zS2} (hM : mo t μ σ π S) {c : Nat} (hc : c < 5) {v : Int32} : zCt l Z mX6_setTold 2 0 0 [.ref t, .ref (t + 25 + c), .int v] (zA4 μ σ π g) (fun r μ' => r = none ∧ zE t μ σ π g (tellF S c v) μ') := by
  refine zCt_of hZ mpX6_setTold (Nat.le_of_ble_eq_true rfl) (L := [some (.ref t), some (.ref (t + 25 + c)), some (.int v)]) rfl (fun τ hY => ?_)
  have hT := hY.1
  have hB := hM.1.tb
  have hM2 := hM.ul ht (o := 25) (f := 9) (n := 5) (b := 96) (v := v) (by decide) hc (by decide) (by decide)
  refine J_aload_n (i := 1) hT dX6_setTold_0 rfl rfl ?_
  refine R_getI hT fX6_192 rfl dX6_setTold_1 (hB.ks hc) ?_
  refine J_topil (hM.1.tld hc) ?_
  refine J_iload_n (i := 2) hT dX6_setTold_4 rfl rfl ?_
  refine J_icmp_eq (tgt := 24) hT dX6_setTold_5 (by decide) (fun q5 => ?_) (fun q5 => ?_)
  · exact J_vret hT dX6_setTold_24 rfl ⟨rfl, by
          have e : tellF S c v = S := if_pos q5
          rw [e]; exact zE.ret hM zfT.rf rfl zch.rf⟩ (Nat.le_refl _) (Nat.le_refl _)
  · refine J_aload_n (i := 1) hT dX6_setTold_8 rfl rfl ?_
    refine J_iload_n (i := 2) hT dX6_setTold_9 rfl rfl ?_
    refine R_putI hT fX6_192 rfl rfl dX6_setTold_10 (hB.ks hc) ?_
    refine J_aload_n (i := 0) hT dX6_setTold_13 rfl rfl ?_
    refine J_bipush (v := 17) hT dX6_setTold_14 rfl ?_
    refine J_aload_n (i := 1) hT dX6_setTold_16 rfl rfl ?_
    refine R_getI hT fX6_195 rfl dX6_setTold_17 (hB.ks hc) ?_
    refine J_topil ((zu_n _ _ _ _ (by omega)).trans (hM.1.ns hc)) ?_
    refine J_iadd hT dX6_setTold_20 ?_
    refine J_topil ((nI_ad 17 c)) ?_
    refine J_callV (ci := 6) hY dX6_setTold_21 mfX6_soilReaders miX6_soilReaders msX6_soilReaders kX6_127 ⟨by decide, rfl⟩ hB.k (c_X6_soilReaders hZ ht hM2 (rd := 17 + c) (rk := 78) (w := c) (by omega) (fun d hd f hf => hM2.1.b78 hd hf hc)) rfl (by decide) rfl rfl (Nat.le_of_ble_eq_true rfl) (Nat.le_refl _) (Nat.le_refl _) (fun r μ1 hq1 => ?_)
    obtain ⟨rfl, hq2⟩ := hq1
    exact J_vret hT dX6_setTold_24 rfl (⟨rfl, by
          have e : tellF S c v = soilF (zu S 96 c v) 78 c := if_neg q5
          rw [e]; exact hq2.mv (zfT_u (zmu_s hc)) rfl (zch_u (by decide))⟩) (Nat.le_refl _) (Nat.le_refl _)

set_option maxRecDepth 100000 in
set_option maxHeartbeats 4000000 in
theorem c_X6_isWanted {l : Launch} {Z : zZ} (hZ : zSt l Z) {μ : zMem} {σ : zS2} {π : zP2} {g : zG2} {t : Nat} (ht : ta t) {S : zS2} (hM : mo t μ σ π S) {s : Nat} (hs : s < 5) (hc : okC (S 82 s)) : zCt l Z mX6_isWanted 1 0 0 [.ref t, .ref (t + 25 + s)] (zA4 μ σ π g) (fun r μ' => r = some (.int (zbi (wantP S s 5))) ∧ μ' = zA4 μ σ π g) := by
  refine zCt_of hZ mpX6_isWanted (Nat.le_of_ble_eq_true rfl) (L := [some (.ref t), some (.ref (t + 25 + s)), none, none, none, none]) rfl (fun τ hY => ?_)
  have hT := hY.1
  have hB := hM.1.tb
  have loop : ∀ n i, i + n = 5 → wantP S s i = true → zJ τ (zFn τ (fun r μ' => r = some (.int (zbi (wantP S s 5))) ∧ μ' = zA4 μ σ π g) 0 0) 25 [some (.ref t), some (.ref (t + 25 + s)), some (.ref (t + 6)), some (.int (nI 5)), some (.int (nI i)), none] [] (zA4 μ σ π g) 0 0 := by
    intro n
    induction n with
    | zero =>
      intro i hi
      have : i = 5 := by omega
      subst this
      intro hw
      refine J_iload (i := 4) hT dX6_isWanted_25 rfl ?_
      refine J_iload_n (i := 3) hT dX6_isWanted_27 rfl rfl ?_
      refine J_icmp_ge (tgt := 69) hT dX6_isWanted_28 (by decide) (fun _ => ?_) (fun q => absurd (nI_le (a := 5) (b := 5) (by decide) (by decide)) q)
      refine J_iconst (v := 1) hT dX6_isWanted_69 rfl ?_
      exact J_iret hT dX6_isWanted_70 rfl rfl (⟨by rw [hw]; rfl, rfl⟩) (Nat.le_refl _) (Nat.le_refl _)
    | succ n ih =>
      intro i hi
      intro hw
      have hi5 : i < 5 := by omega
      have hf : wantP S s (i + 1) = false → wantP S s 5 = false := fun q => by have := wantP_F S s (i + 1) n q; rwa [show i + 1 + n = 5 by omega] at this
      refine J_iload (i := 4) hT dX6_isWanted_25 rfl ?_
      refine J_iload_n (i := 3) hT dX6_isWanted_27 rfl rfl ?_
      refine J_icmp_ge (tgt := 69) hT dX6_isWanted_28 (by decide) (fun q => absurd q (Int32.not_le.mpr (nI_lt (a := i) (b := 5) (by omega) (by decide)))) (fun _ => ?_)
      refine J_aload_n (i := 2) hT dX6_isWanted_31 rfl rfl ?_
      refine J_iload (i := 4) hT dX6_isWanted_32 rfl ?_
      refine R_aald1 hT dX6_isWanted_34 hB.k6 (by decide) hB.l6 (by first | exact ⟨rfl, by decide⟩ | exact zix_nI (by omega) (by decide) | assumption) (hB.ps hi5) ?_
      refine S_astore5 hT dX6_isWanted_35 rfl ?_
      refine J_aload (i := 5) hT dX6_isWanted_37 rfl ?_
      refine R_getI hT fX6_159 rfl dX6_isWanted_39 (hB.ks hi5) ?_
      refine J_topil (hM.1.sst hi5) ?_
      refine J_iconst (v := 2) hT dX6_isWanted_42 rfl ?_
      refine J_icmp_eq (tgt := 63) hT dX6_isWanted_43 (by decide) (fun q43 => ?_) (fun q43 => ?_)
      · refine S_iinc4 hT dX6_isWanted_63 (nI_inc _) rfl ?_
        refine J_goto (tgt := 25) hT dX6_isWanted_66 (by decide) ?_
        refine J_L (L' := [_, _, _, _, _, none]) (zsub_keep (zsub_keep (zsub_keep (zsub_keep (zsub_keep (zsub_drop (zsub_refl _))))))) ?_
        exact ih (i + 1) (by omega) (by rw [wantP_s, hw]; first | (simp [q43]; done) | (simp [zbi_0.mp q58]; done))
      · refine J_aload_n (i := 1) hT dX6_isWanted_46 rfl rfl ?_
        refine R_getI hT fX6_153 rfl dX6_isWanted_47 (hB.ks hs) ?_
        refine J_topil (hM.1.nds hs) ?_
        refine J_aload (i := 5) hT dX6_isWanted_50 rfl ?_
        refine R_getI hT fX6_195 rfl dX6_isWanted_52 (hB.ks hi5) ?_
        refine J_topil (hM.1.ns hi5) ?_
        refine R_callS1 hY dX6_isWanted_55 mfX8_has mtX8_has kX6_184 (c_X8_has hZ (by omega)) rfl (by decide) rfl rfl (Nat.le_of_ble_eq_true rfl) (Nat.le_refl _) (Nat.le_refl _) ?_
        refine J_if_eq (tgt := 63) hT dX6_isWanted_58 (by decide) (fun q58 => ?_) (fun q58 => ?_)
        · refine S_iinc4 hT dX6_isWanted_63 (nI_inc _) rfl ?_
          refine J_goto (tgt := 25) hT dX6_isWanted_66 (by decide) ?_
          refine J_L (L' := [_, _, _, _, _, none]) (zsub_keep (zsub_keep (zsub_keep (zsub_keep (zsub_keep (zsub_drop (zsub_refl _))))))) ?_
          exact ih (i + 1) (by omega) (by rw [wantP_s, hw]; first | (simp [q43]; done) | (simp [zbi_0.mp q58]; done))
        · refine J_iconst (v := 0) hT dX6_isWanted_61 rfl ?_
          exact J_iret hT dX6_isWanted_62 rfl rfl (⟨by rw [hf (by rw [wantP_s, hw]; simp [q43, zbi_ne.mp q58])]; rfl, rfl⟩) (Nat.le_refl _) (Nat.le_refl _)
  rcases hc with hc | ⟨c, hc12, hc⟩
  · have e : wantP S s 5 = false := by simp [wantP, hc]
    rw [e]
    refine J_aload_n (i := 0) hT dX6_isWanted_0 rfl rfl ?_
    refine J_aload_n (i := 1) hT dX6_isWanted_1 rfl rfl ?_
    refine R_getI hT fX6_138 rfl dX6_isWanted_2 (hB.ks hs) ?_
    refine J_topil ((hM.1.ctl hs).trans hc) ?_
    refine J_iconst (v := 0) hT dX6_isWanted_5 rfl ?_
    refine R_callV1 (ci := 6) hY dX6_isWanted_6 mfX6_cellValue miX6_cellValue msX6_cellValue kX6_217 ⟨by decide, rfl⟩ hB.k (c_X6_cellValueN hZ ht hM) rfl (by decide) rfl rfl (Nat.le_of_ble_eq_true rfl) (Nat.le_refl _) (Nat.le_refl _) ?_
    refine J_if_gt (tgt := 14) hT dX6_isWanted_9 (by decide) (fun q => absurd q (by decide)) (fun _ => ?_)
    refine J_iconst (v := 0) hT dX6_isWanted_12 rfl ?_
    exact J_iret hT dX6_isWanted_13 rfl rfl (⟨rfl, rfl⟩) (Nat.le_refl _) (Nat.le_refl _)
  · by_cases hp : 0 < S 88 c
    · have e : wantP S s 0 = true := by simp [wantP, hc, nI_tn hc12, nI_pos' (show c < 2 ^ 31 by omega), hp]
      refine J_aload_n (i := 0) hT dX6_isWanted_0 rfl rfl ?_
      refine J_aload_n (i := 1) hT dX6_isWanted_1 rfl rfl ?_
      refine R_getI hT fX6_138 rfl dX6_isWanted_2 (hB.ks hs) ?_
      refine J_topil ((hM.1.ctl hs).trans hc) ?_
      refine J_iconst (v := 0) hT dX6_isWanted_5 rfl ?_
      refine R_callV1 (ci := 6) hY dX6_isWanted_6 mfX6_cellValue miX6_cellValue msX6_cellValue kX6_217 ⟨by decide, rfl⟩ hB.k (c_X6_cellValue hZ ht hM hc12) rfl (by decide) rfl rfl (Nat.le_of_ble_eq_true rfl) (Nat.le_refl _) (Nat.le_refl _) ?_
      refine J_if_gt (tgt := 14) hT dX6_isWanted_9 (by decide) (fun _ => ?_) (fun q => absurd (hp) q)
      refine J_aload_n (i := 0) hT dX6_isWanted_14 rfl rfl ?_
      refine R_getP hT fX6_37 rfl dX6_isWanted_15 hB.k hB.p4 ?_
      refine S_astore2 hT dX6_isWanted_18 rfl rfl ?_
      refine J_aload_n (i := 2) hT dX6_isWanted_19 rfl rfl ?_
      refine R_alen hT dX6_isWanted_20 (by rw [hB.k6]; decide) hB.l6 ?_
      refine S_istore3 hT dX6_isWanted_21 rfl rfl ?_
      refine J_iconst (v := 0) hT dX6_isWanted_22 rfl ?_
      refine S_istore4 hT dX6_isWanted_23 rfl ?_
      exact loop 5 0 rfl e
    · have e : wantP S s 5 = false := by simp [wantP, hc, nI_tn hc12, hp]
      rw [e]
      refine J_aload_n (i := 0) hT dX6_isWanted_0 rfl rfl ?_
      refine J_aload_n (i := 1) hT dX6_isWanted_1 rfl rfl ?_
      refine R_getI hT fX6_138 rfl dX6_isWanted_2 (hB.ks hs) ?_
      refine J_topil ((hM.1.ctl hs).trans hc) ?_
      refine J_iconst (v := 0) hT dX6_isWanted_5 rfl ?_
      refine R_callV1 (ci := 6) hY dX6_isWanted_6 mfX6_cellValue miX6_cellValue msX6_cellValue kX6_217 ⟨by decide, rfl⟩ hB.k (c_X6_cellValue hZ ht hM hc12) rfl (by decide) rfl rfl (Nat.le_of_ble_eq_true rfl) (Nat.le_refl _) (Nat.le_refl _) ?_
      refine J_if_gt (tgt := 14) hT dX6_isWanted_9 (by decide) (fun q => absurd q (hp)) (fun _ => ?_)
      refine J_iconst (v := 0) hT dX6_isWanted_12 rfl ?_
      exact J_iret hT dX6_isWanted_13 rfl rfl (⟨rfl, rfl⟩) (Nat.le_refl _) (Nat.le_refl _)

def lrN (S : zS2) (s : Nat) : Int32 := if S 83 s < 0 then (if S 85 s < 0 then 0 else S 85 s) else if (if S 88 (S 83 s).toNatClampNeg < S 85 s then S 88 (S 83 s).toNatClampNeg else S 85 s) < 0 then 0 else if S 88 (S 83 s).toNatClampNeg < S 85 s then S 88 (S 83 s).toNatClampNeg else S 85 s
theorem mx_eq (x : Int32) : (if (0 : Int32) < x then x else 0) = if x < 0 then 0 else x := by
  by_cases h : (0 : Int32) < x
  · rw [if_pos h, if_neg]; rw [Int32.lt_iff_toInt_lt] at *; simp at *; omega
  · rw [if_neg h]
    split
    · rfl
    · rename_i h2
      rw [Int32.lt_iff_toInt_lt] at *
      apply Int32.toInt_inj.mp
      simp at *
      omega

set_option maxRecDepth 100000 in
set_option maxHeartbeats 4000000 in
theorem c_X6_loadRunning {l : Launch} {Z : zZ} (hZ : zSt l Z) {μ : zMem} {σ : zS2} {π : zP2} {g : zG2} {t : Nat} (ht : ta t) {S : zS2} (hM : mo t μ σ π S) {s : Nat} (hs : s < 5) (hc : okC (S 83 s)) : zCt l Z mX6_loadRunning 1 0 0 [.ref t, .ref (t + 25 + s)] (zA4 μ σ π g) (fun r μ' => r = some (.int (lrN S s)) ∧ μ' = zA4 μ σ π g) := by
  refine zCt_of hZ mpX6_loadRunning (Nat.le_of_ble_eq_true rfl) (L := [some (.ref t), some (.ref (t + 25 + s)), none]) rfl (fun τ hY => ?_)
  have hT := hY.1
  have hB := hM.1.tb
  rcases hc with hc | ⟨c, hc12, hc⟩
  · refine J_aload_n (i := 0) hT dX6_loadRunning_0 rfl rfl ?_
    refine J_aload_n (i := 1) hT dX6_loadRunning_1 rfl rfl ?_
    refine R_getI hT fX6_141 rfl dX6_loadRunning_2 (hB.ks hs) ?_
    refine J_topil ((hM.1.lim hs).trans hc) ?_
    refine J_aload_n (i := 1) hT dX6_loadRunning_5 rfl rfl ?_
    refine R_getI hT fX6_144 rfl dX6_loadRunning_6 (hB.ks hs) ?_
    refine J_topil (hM.1.dem hs) ?_
    refine R_callV1 (ci := 6) hY dX6_loadRunning_9 mfX6_cellValue miX6_cellValue msX6_cellValue kX6_217 ⟨by decide, rfl⟩ hB.k (c_X6_cellValueN hZ ht hM) rfl (by decide) rfl rfl (Nat.le_of_ble_eq_true rfl) (Nat.le_refl _) (Nat.le_refl _) ?_
    refine S_istore2 hT dX6_loadRunning_12 rfl rfl ?_
    refine J_iconst (v := 0) hT dX6_loadRunning_13 rfl ?_
    refine J_aload_n (i := 1) hT dX6_loadRunning_14 rfl rfl ?_
    refine R_getI hT fX6_144 rfl dX6_loadRunning_15 (hB.ks hs) ?_
    refine J_topil (hM.1.dem hs) ?_
    refine J_iload_n (i := 2) hT dX6_loadRunning_18 rfl rfl ?_
    refine J_mmin hT dX6_loadRunning_19 kX6_221 rfl (by decide) (Nat.le_refl _) (Nat.le_refl _) ?_
    refine J_mmax hT dX6_loadRunning_22 kX6_226 rfl (by decide) (Nat.le_refl _) (Nat.le_refl _) ?_
    exact J_iret hT dX6_loadRunning_25 rfl rfl (⟨by congr 2; rw [mx_eq, if_neg Int32.lt_irrefl]; unfold lrN; rw [hc, if_pos (show (-1 : Int32) < 0 by decide)], rfl⟩) (Nat.le_refl _) (Nat.le_refl _)
  · refine J_aload_n (i := 0) hT dX6_loadRunning_0 rfl rfl ?_
    refine J_aload_n (i := 1) hT dX6_loadRunning_1 rfl rfl ?_
    refine R_getI hT fX6_141 rfl dX6_loadRunning_2 (hB.ks hs) ?_
    refine J_topil ((hM.1.lim hs).trans hc) ?_
    refine J_aload_n (i := 1) hT dX6_loadRunning_5 rfl rfl ?_
    refine R_getI hT fX6_144 rfl dX6_loadRunning_6 (hB.ks hs) ?_
    refine J_topil (hM.1.dem hs) ?_
    refine R_callV1 (ci := 6) hY dX6_loadRunning_9 mfX6_cellValue miX6_cellValue msX6_cellValue kX6_217 ⟨by decide, rfl⟩ hB.k (c_X6_cellValue hZ ht hM hc12) rfl (by decide) rfl rfl (Nat.le_of_ble_eq_true rfl) (Nat.le_refl _) (Nat.le_refl _) ?_
    refine S_istore2 hT dX6_loadRunning_12 rfl rfl ?_
    refine J_iconst (v := 0) hT dX6_loadRunning_13 rfl ?_
    refine J_aload_n (i := 1) hT dX6_loadRunning_14 rfl rfl ?_
    refine R_getI hT fX6_144 rfl dX6_loadRunning_15 (hB.ks hs) ?_
    refine J_topil (hM.1.dem hs) ?_
    refine J_iload_n (i := 2) hT dX6_loadRunning_18 rfl rfl ?_
    refine J_mmin hT dX6_loadRunning_19 kX6_221 rfl (by decide) (Nat.le_refl _) (Nat.le_refl _) ?_
    refine J_mmax hT dX6_loadRunning_22 kX6_226 rfl (by decide) (Nat.le_refl _) (Nat.le_refl _) ?_
    exact J_iret hT dX6_loadRunning_25 rfl rfl (⟨by congr 2; rw [mx_eq]; unfold lrN; rw [hc, if_neg (nI_n0 hc12), nI_tn hc12], rfl⟩) (Nat.le_refl _) (Nat.le_refl _)

set_option maxRecDepth 100000 in
set_option maxHeartbeats 4000000 in
theorem c_X3_isFresh {l : Launch} {Z : zZ} (hZ : zSt l Z) {μ : zMem} {σ : zS2} {π : zP2} {g : zG2} {a : Nat} (ha : zK μ a = 3 + 8) {w : Int32} : zCt l Z mX3_isFresh 0 0 0 [.ref a, .int w] (zA4 μ σ π g) (fun r μ' => r = some (.int (zbi (decide (σ a 1 ≠ -1) && decide (w - σ a 1 ≤ 10)))) ∧ μ' = zA4 μ σ π g) := by
  refine zCt_of hZ mpX3_isFresh (Nat.le_of_ble_eq_true rfl) (L := [some (.ref a), some (.int w)]) rfl (fun τ hY => ?_)
  have hT := hY.1
  refine J_aload_n (i := 0) hT dX3_isFresh_0 rfl rfl ?_
  refine R_getI hT fX3_15 rfl dX3_isFresh_1 ha ?_
  refine J_iconst (v := -1) hT dX3_isFresh_4 rfl ?_
  refine J_icmp_eq (tgt := 23) hT dX3_isFresh_5 (by decide) (fun q5 => ?_) (fun q5 => ?_)
  · refine J_iconst (v := 0) hT dX3_isFresh_23 rfl ?_
    exact J_iret hT dX3_isFresh_24 rfl rfl (⟨by congr 2; simp only [ge_iff_le, gt_iff_lt, ← Int32.not_lt, Decidable.not_not] at *; simp_all [zbi, -Int32.not_lt, -Int32.not_le], rfl⟩) (Nat.le_refl _) (Nat.le_refl _)
  · refine J_iload_n (i := 1) hT dX3_isFresh_8 rfl rfl ?_
    refine J_aload_n (i := 0) hT dX3_isFresh_9 rfl rfl ?_
    refine R_getI hT fX3_15 rfl dX3_isFresh_10 ha ?_
    refine J_isub hT dX3_isFresh_13 ?_
    refine J_bipush (v := 10) hT dX3_isFresh_14 rfl ?_
    refine J_icmp_gt (tgt := 23) hT dX3_isFresh_16 (by decide) (fun q16 => ?_) (fun q16 => ?_)
    · refine J_iconst (v := 0) hT dX3_isFresh_23 rfl ?_
      exact J_iret hT dX3_isFresh_24 rfl rfl (⟨by congr 2; simp only [ge_iff_le, gt_iff_lt, ← Int32.not_lt, Decidable.not_not] at *; simp_all [zbi, -Int32.not_lt, -Int32.not_le], rfl⟩) (Nat.le_refl _) (Nat.le_refl _)
    · refine J_iconst (v := 1) hT dX3_isFresh_19 rfl ?_
      refine J_goto (tgt := 24) hT dX3_isFresh_20 (by decide) ?_
      exact J_iret hT dX3_isFresh_24 rfl rfl (⟨by congr 2; simp only [ge_iff_le, gt_iff_lt, ← Int32.not_lt, Decidable.not_not] at *; simp_all [zbi, -Int32.not_lt, -Int32.not_le], rfl⟩) (Nat.le_refl _) (Nat.le_refl _)

set_option maxRecDepth 100000 in
set_option maxHeartbeats 4000000 in
theorem c_X4_isDue {l : Launch} {Z : zZ} (hZ : zSt l Z) {μ : zMem} {σ : zS2} {π : zP2} {g : zG2} {a : Nat} (ha : zK μ a = 4 + 8) {w : Int32} : zCt l Z mX4_isDue 0 0 0 [.ref a, .int w] (zA4 μ σ π g) (fun r μ' => r = some (.int (zbi (decide (σ a 1 = 1) && decide (σ a 12 ≤ w - σ a 11)))) ∧ μ' = zA4 μ σ π g) := by
  refine zCt_of hZ mpX4_isDue (Nat.le_of_ble_eq_true rfl) (L := [some (.ref a), some (.int w)]) rfl (fun τ hY => ?_)
  have hT := hY.1
  refine J_aload_n (i := 0) hT dX4_isDue_0 rfl rfl ?_
  refine R_getI hT fX4_9 rfl dX4_isDue_1 ha ?_
  refine J_iconst (v := 1) hT dX4_isDue_4 rfl ?_
  refine J_icmp_ne (tgt := 25) hT dX4_isDue_5 (by decide) (fun q5 => ?_) (fun q5 => ?_)
  · refine J_iconst (v := 0) hT dX4_isDue_25 rfl ?_
    exact J_iret hT dX4_isDue_26 rfl rfl (⟨by congr 2; simp only [ge_iff_le, gt_iff_lt, ← Int32.not_lt, Decidable.not_not] at *; simp_all [zbi, -Int32.not_lt, -Int32.not_le], rfl⟩) (Nat.le_refl _) (Nat.le_refl _)
  · refine J_iload_n (i := 1) hT dX4_isDue_8 rfl rfl ?_
    refine J_aload_n (i := 0) hT dX4_isDue_9 rfl rfl ?_
    refine R_getI hT fX4_42 rfl dX4_isDue_10 ha ?_
    refine J_isub hT dX4_isDue_13 ?_
    refine J_aload_n (i := 0) hT dX4_isDue_14 rfl rfl ?_
    refine R_getI hT fX4_45 rfl dX4_isDue_15 ha ?_
    refine J_icmp_lt (tgt := 25) hT dX4_isDue_18 (by decide) (fun q18 => ?_) (fun q18 => ?_)
    · refine J_iconst (v := 0) hT dX4_isDue_25 rfl ?_
      exact J_iret hT dX4_isDue_26 rfl rfl (⟨by congr 2; simp only [ge_iff_le, gt_iff_lt, ← Int32.not_lt, Decidable.not_not] at *; simp_all [zbi, -Int32.not_lt, -Int32.not_le], rfl⟩) (Nat.le_refl _) (Nat.le_refl _)
    · refine J_iconst (v := 1) hT dX4_isDue_21 rfl ?_
      refine J_goto (tgt := 26) hT dX4_isDue_22 (by decide) ?_
      exact J_iret hT dX4_isDue_26 rfl rfl (⟨by congr 2; simp only [ge_iff_le, gt_iff_lt, ← Int32.not_lt, Decidable.not_not] at *; simp_all [zbi, -Int32.not_lt, -Int32.not_le], rfl⟩) (Nat.le_refl _) (Nat.le_refl _)

def enF (σ : zS2) (a : Nat) (x w : Int32) : zS2 := if x = σ a 1 then zu σ a 1 x else if x = 2 then zu (zu σ a 10 (σ a 10 + 1)) a 1 x else if x = 1 then zu (zu (zu σ a 11 w) a 12 (σ a 6)) a 1 x else zu σ a 1 x

set_option maxRecDepth 100000 in
set_option maxHeartbeats 4000000 in
theorem c_X4_enter {l : Launch} {Z : zZ} (hZ : zSt l Z) {μ : zMem} {σ : zS2} {π : zP2} {g : zG2} {a : Nat} (ha : zK μ a = 4 + 8) {x w : Int32} : zCt l Z mX4_enter 0 0 0 [.ref a, .int x, .int w] (zA4 μ σ π g) (fun r μ' => r = none ∧ μ' = zA4 μ (enF σ a x w) π g) := by
  refine zCt_of hZ mpX4_enter (Nat.le_of_ble_eq_true rfl) (L := [some (.ref a), some (.int x), some (.int w)]) rfl (fun τ hY => ?_)
  have hT := hY.1
  refine J_iload_n (i := 1) hT dX4_enter_0 rfl rfl ?_
  refine J_aload_n (i := 0) hT dX4_enter_1 rfl rfl ?_
  refine R_getI hT fX4_9 rfl dX4_enter_2 ha ?_
  refine J_icmp_eq (tgt := 23) hT dX4_enter_5 (by decide) (fun q5 => ?_) (fun q5 => ?_)
  · refine J_iload_n (i := 1) hT dX4_enter_23 rfl rfl ?_
    refine J_aload_n (i := 0) hT dX4_enter_24 rfl rfl ?_
    refine R_getI hT fX4_9 rfl dX4_enter_25 ha ?_
    refine J_icmp_eq (tgt := 49) hT dX4_enter_28 (by decide) (fun q28 => ?_) (fun q28 => ?_)
    · refine J_aload_n (i := 0) hT dX4_enter_49 rfl rfl ?_
      refine J_iload_n (i := 1) hT dX4_enter_50 rfl rfl ?_
      refine R_putI hT fX4_9 rfl rfl dX4_enter_51 ha ?_
      exact J_vret hT dX4_enter_54 rfl (⟨rfl, by congr 1; simp_all [enF, zu]⟩) (Nat.le_refl _) (Nat.le_refl _)
    · refine J_iload_n (i := 1) hT dX4_enter_31 rfl rfl ?_
      refine J_iconst (v := 1) hT dX4_enter_32 rfl ?_
      refine J_icmp_ne (tgt := 49) hT dX4_enter_33 (by decide) (fun q33 => ?_) (fun q33 => ?_)
      · refine J_aload_n (i := 0) hT dX4_enter_49 rfl rfl ?_
        refine J_iload_n (i := 1) hT dX4_enter_50 rfl rfl ?_
        refine R_putI hT fX4_9 rfl rfl dX4_enter_51 ha ?_
        exact J_vret hT dX4_enter_54 rfl (⟨rfl, by congr 1; simp_all [enF, zu]⟩) (Nat.le_refl _) (Nat.le_refl _)
      · refine J_aload_n (i := 0) hT dX4_enter_36 rfl rfl ?_
        refine J_iload_n (i := 2) hT dX4_enter_37 rfl rfl ?_
        refine R_putI hT fX4_42 rfl rfl dX4_enter_38 ha ?_
        refine J_aload_n (i := 0) hT dX4_enter_41 rfl rfl ?_
        refine J_aload_n (i := 0) hT dX4_enter_42 rfl rfl ?_
        refine R_getI hT fX4_27 rfl dX4_enter_43 ha ?_
        refine R_putI hT fX4_45 rfl rfl dX4_enter_46 ha ?_
        refine J_aload_n (i := 0) hT dX4_enter_49 rfl rfl ?_
        refine J_iload_n (i := 1) hT dX4_enter_50 rfl rfl ?_
        refine R_putI hT fX4_9 rfl rfl dX4_enter_51 ha ?_
        exact J_vret hT dX4_enter_54 rfl (⟨rfl, by congr 1; simp_all [enF, zu]⟩) (Nat.le_refl _) (Nat.le_refl _)
  · refine J_iload_n (i := 1) hT dX4_enter_8 rfl rfl ?_
    refine J_iconst (v := 2) hT dX4_enter_9 rfl ?_
    refine J_icmp_ne (tgt := 23) hT dX4_enter_10 (by decide) (fun q10 => ?_) (fun q10 => ?_)
    · refine J_iload_n (i := 1) hT dX4_enter_23 rfl rfl ?_
      refine J_aload_n (i := 0) hT dX4_enter_24 rfl rfl ?_
      refine R_getI hT fX4_9 rfl dX4_enter_25 ha ?_
      refine J_icmp_eq (tgt := 49) hT dX4_enter_28 (by decide) (fun q28 => ?_) (fun q28 => ?_)
      · refine J_aload_n (i := 0) hT dX4_enter_49 rfl rfl ?_
        refine J_iload_n (i := 1) hT dX4_enter_50 rfl rfl ?_
        refine R_putI hT fX4_9 rfl rfl dX4_enter_51 ha ?_
        exact J_vret hT dX4_enter_54 rfl (⟨rfl, by congr 1; simp_all [enF, zu]⟩) (Nat.le_refl _) (Nat.le_refl _)
      · refine J_iload_n (i := 1) hT dX4_enter_31 rfl rfl ?_
        refine J_iconst (v := 1) hT dX4_enter_32 rfl ?_
        refine J_icmp_ne (tgt := 49) hT dX4_enter_33 (by decide) (fun q33 => ?_) (fun q33 => ?_)
        · refine J_aload_n (i := 0) hT dX4_enter_49 rfl rfl ?_
          refine J_iload_n (i := 1) hT dX4_enter_50 rfl rfl ?_
          refine R_putI hT fX4_9 rfl rfl dX4_enter_51 ha ?_
          exact J_vret hT dX4_enter_54 rfl (⟨rfl, by congr 1; simp_all [enF, zu]⟩) (Nat.le_refl _) (Nat.le_refl _)
        · refine J_aload_n (i := 0) hT dX4_enter_36 rfl rfl ?_
          refine J_iload_n (i := 2) hT dX4_enter_37 rfl rfl ?_
          refine R_putI hT fX4_42 rfl rfl dX4_enter_38 ha ?_
          refine J_aload_n (i := 0) hT dX4_enter_41 rfl rfl ?_
          refine J_aload_n (i := 0) hT dX4_enter_42 rfl rfl ?_
          refine R_getI hT fX4_27 rfl dX4_enter_43 ha ?_
          refine R_putI hT fX4_45 rfl rfl dX4_enter_46 ha ?_
          refine J_aload_n (i := 0) hT dX4_enter_49 rfl rfl ?_
          refine J_iload_n (i := 1) hT dX4_enter_50 rfl rfl ?_
          refine R_putI hT fX4_9 rfl rfl dX4_enter_51 ha ?_
          exact J_vret hT dX4_enter_54 rfl (⟨rfl, by congr 1; simp_all [enF, zu]⟩) (Nat.le_refl _) (Nat.le_refl _)
    · refine J_aload_n (i := 0) hT dX4_enter_13 rfl rfl ?_
      refine J_dup hT dX4_enter_14 rfl ?_
      refine R_getI hT fX4_39 rfl dX4_enter_15 ha ?_
      refine J_iconst (v := 1) hT dX4_enter_18 rfl ?_
      refine J_iadd hT dX4_enter_19 ?_
      refine R_putI hT fX4_39 rfl rfl dX4_enter_20 ha ?_
      refine J_iload_n (i := 1) hT dX4_enter_23 rfl rfl ?_
      refine J_aload_n (i := 0) hT dX4_enter_24 rfl rfl ?_
      refine R_getI hT fX4_9 rfl dX4_enter_25 ha ?_
      refine J_icmp_eq (tgt := 49) hT dX4_enter_28 (by decide) (fun q28 => ?_) (fun q28 => ?_)
      · refine J_aload_n (i := 0) hT dX4_enter_49 rfl rfl ?_
        refine J_iload_n (i := 1) hT dX4_enter_50 rfl rfl ?_
        refine R_putI hT fX4_9 rfl rfl dX4_enter_51 ha ?_
        exact J_vret hT dX4_enter_54 rfl (⟨rfl, by congr 1; simp_all [enF, zu]⟩) (Nat.le_refl _) (Nat.le_refl _)
      · refine J_iload_n (i := 1) hT dX4_enter_31 rfl rfl ?_
        refine J_iconst (v := 1) hT dX4_enter_32 rfl ?_
        refine J_icmp_ne (tgt := 49) hT dX4_enter_33 (by decide) (fun q33 => ?_) (fun q33 => ?_)
        · refine J_aload_n (i := 0) hT dX4_enter_49 rfl rfl ?_
          refine J_iload_n (i := 1) hT dX4_enter_50 rfl rfl ?_
          refine R_putI hT fX4_9 rfl rfl dX4_enter_51 ha ?_
          exact J_vret hT dX4_enter_54 rfl (⟨rfl, by congr 1; simp_all [enF, zu]⟩) (Nat.le_refl _) (Nat.le_refl _)
        · refine J_aload_n (i := 0) hT dX4_enter_36 rfl rfl ?_
          refine J_iload_n (i := 2) hT dX4_enter_37 rfl rfl ?_
          refine R_putI hT fX4_42 rfl rfl dX4_enter_38 ha ?_
          refine J_aload_n (i := 0) hT dX4_enter_41 rfl rfl ?_
          refine J_aload_n (i := 0) hT dX4_enter_42 rfl rfl ?_
          refine R_getI hT fX4_27 rfl dX4_enter_43 ha ?_
          refine R_putI hT fX4_45 rfl rfl dX4_enter_46 ha ?_
          refine J_aload_n (i := 0) hT dX4_enter_49 rfl rfl ?_
          refine J_iload_n (i := 1) hT dX4_enter_50 rfl rfl ?_
          refine R_putI hT fX4_9 rfl rfl dX4_enter_51 ha ?_
          exact J_vret hT dX4_enter_54 rfl (⟨rfl, by congr 1; simp_all [enF, zu]⟩) (Nat.le_refl _) (Nat.le_refl _)


