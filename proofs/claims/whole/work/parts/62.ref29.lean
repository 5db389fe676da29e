
theorem rnF_le {σ : Nat → Nat → Int32} {L q : Nat} (hL : L ≤ 30) (f : Nat) : ∀ {w : Bool} {p : Nat} {ks op : List Nat} {fr : List (Bool × Nat × Nat)}, rnF σ L f w p ks op fr = .inl q → q ≤ 30 := by
  induction f with
  | zero => intro w p ks op fr h; rw [rnF] at h; cases h
  | succ f ih =>
    intro w p ks op fr h
    by_cases hp : p < L
    · cases e : stF σ L w p ks op fr with
      | inl r =>
        rw [rnF_l hp e] at h
        injection h with h
        subst h
        exact stF_le hp hL e
      | inr t =>
        obtain ⟨w', p', ks', op', fr'⟩ := t
        rw [rnF_r hp e] at h
        exact ih h
    · rw [rnF_e hp] at h; cases h
theorem tok_31 {s : List Nat} (h : okL s) : ∀ x, x ∈ s → x < 2147483648 := by
  induction s with
  | nil => exact fun x hx => absurd hx (by simp)
  | cons y s ih =>
    intro x hx
    rcases List.mem_cons.mp hx with rfl | hx
    · rcases h.1 with q | q | q | q | q <;> omega
    · exact ih h.2.2 x hx

set_option maxRecDepth 100000 in
set_option maxHeartbeats 4000000 in
theorem c_X9_formula_ok {l : Launch} {Z : zZ} (hZ : zSt l Z) {μ : zMem} {σ : Nat → Nat → Int32} {π : Nat → Nat → Option Nat} {g : Nat → Nat → Int64} (hS : zRef μ π) {n c L : Nat} (hn : n < 40) (hV : RV n σ) (hc : c < 12) (hL : σ 67 1 = nI L) (hL30 : L ≤ 30) (hf : fltI (rdF σ L) L = -1) (hh : ∀ S, zpf σ S → PM S (rdK (rdF σ L)).1 [] → bt (belF S false (whP S (rdK (rdF σ L)).1.length)) c = false) : zCt l Z mX9_formula 8 0 0 [.ref 67, .int (nI c)] (zA4 μ σ π g) (fun r μ' => ∃ S, zpf σ S ∧ PM S (rdK (rdF σ L)).1 [] ∧ r = some (.int (nI (doF (kpS (fmP (zu S 67 45 0) n (rdK (rdF σ L)).1.length (rdK (rdF σ L)).1.length) n 0 (nI c) 0 0) n).2)) ∧ ∃ g', μ' = zA4 μ (doF (kpS (fmP (zu S 67 45 0) n (rdK (rdF σ L)).1.length (rdK (rdF σ L)).1.length) n 0 (nI c) 0 0) n).1 π g' ∧ zge g g') := by
  refine zCt_of hZ mpX9_formula (Nat.le_of_ble_eq_true rfl) (L := [some (.ref 67), some (.int (nI c)), none, none]) rfl (fun τ hY => ?_)
  have hT := hY.1
  have hnq : ∀ q, rdF σ L = .inl q → q ≤ 30 := fun q h => rnF_le hL30 31 h
  obtain ⟨ok1, ok2, ok3⟩ := rdF_ok hL30 hf hnq
  have main : ∀ S, zpf σ S → PM S (rdK (rdF σ L)).1 [] → zJ τ (zFn τ (fun r μ' => ∃ S, zpf σ S ∧ PM S (rdK (rdF σ L)).1 [] ∧ r = some (.int (nI (doF (kpS (fmP (zu S 67 45 0) n (rdK (rdF σ L)).1.length (rdK (rdF σ L)).1.length) n 0 (nI c) 0 0) n).2)) ∧ ∃ g', μ' = zA4 μ (doF (kpS (fmP (zu S 67 45 0) n (rdK (rdF σ L)).1.length (rdK (rdF σ L)).1.length) n 0 (nI c) 0 0) n).1 π g' ∧ zge g g') 0 0) 59 [some (.ref 67), some (.int (nI c)), some (.int 1), none] [] (zA4 μ (zu S 67 45 0) π g) 0 0 := by
    intro S hz hPM
    have hV0 := (hV.text hz).m 45 0 (by decide)
    have hhS := hh S hz hPM
    obtain ⟨w1, w2⟩ := zOp_w hPM.2.2.1 (tok_31 ok1) ok1
    have hl30 := hPM.2.2.2.2.1
    obtain ⟨S0, hS0⟩ : ∃ S0, S0 = zu S 67 45 0 := ⟨_, rfl⟩
    obtain ⟨len, hlen⟩ : ∃ len, len = (rdK (rdF σ L)).1.length := ⟨_, rfl⟩
    have e69 : ∀ j, S0 69 j = S 69 j := fun j => by rw [hS0]; exact zu_ne _ _ _ _ (by decide) j
    have hml : S0 67 3 = nI len := by rw [hS0, hlen]; simpa [zu] using hPM.1
    have hwh : ∀ k, whP S0 k = whP S k := by
      intro k
      induction k with
      | zero => rfl
      | succ k ih => simp only [whP, ih, e69]
    have hzS : zq n S S0 := by rw [hS0]; exact zq_mk (zq_refl n S) (fun b hb j => zu_ne _ _ _ _ (by rintro rfl; exact absurd hb (by decide)) j) (by simp [zu]) (by simp [zu]) (fun _ _ _ => rfl) (fun b hb j => zu_ne _ _ _ _ (by rintro rfl; exact absurd hb (by decide)) j)
    rw [← hS0] at hV0 ⊢
    have hk := kp_formula hV0 (c := c) (len := len) hc (by
      rw [hlen]
      refine ⟨hl30, ?_, fun k hk => ?_⟩
      · simp only [e69]; exact w1.trans ok2
      · simp only [e69]; exact (w2 k hk).1) (fun k hk => by rw [e69]; exact (w2 k (hlen ▸ hk)).2) (by rw [hwh, belF_q hzS, hlen]; exact hhS)
    have hV1 : RV n (fmP S0 n len len) := hV0.mv (fmP_q S0 n len len) (fmP_ne S0 n len len (by decide) _)
    rw [← hlen] at hl30
    have post : ∀ g', zge g g' → ∃ S', zpf σ S' ∧ PM S' (rdK (rdF σ L)).1 [] ∧ some (Value.int (nI (doF (kpS (fmP S0 n len len) n 0 (nI c) 0 0) n).2)) = some (.int (nI (doF (kpS (fmP (zu S' 67 45 0) n (rdK (rdF σ L)).1.length (rdK (rdF σ L)).1.length) n 0 (nI c) 0 0) n).2)) ∧ ∃ g'', zA4 μ (doF (kpS (fmP S0 n len len) n 0 (nI c) 0 0) n).1 π g' = zA4 μ (doF (kpS (fmP (zu S' 67 45 0) n (rdK (rdF σ L)).1.length (rdK (rdF σ L)).1.length) n 0 (nI c) 0 0) n).1 π g'' ∧ zge g g'' := fun g' hg' => ⟨S, hz, hPM, by rw [hS0, hlen], g', by rw [hS0, hlen], hg'⟩
    have loop : ∀ n1 i, i + n1 = len → zJ τ (zFn τ (fun r μ' => ∃ S, zpf σ S ∧ PM S (rdK (rdF σ L)).1 [] ∧ r = some (.int (nI (doF (kpS (fmP (zu S 67 45 0) n (rdK (rdF σ L)).1.length (rdK (rdF σ L)).1.length) n 0 (nI c) 0 0) n).2)) ∧ ∃ g', μ' = zA4 μ (doF (kpS (fmP (zu S 67 45 0) n (rdK (rdF σ L)).1.length (rdK (rdF σ L)).1.length) n 0 (nI c) 0 0) n).1 π g' ∧ zge g g') 0 0) 74 [some (.ref 67), some (.int (nI c)), some (.int 1), some (.int (nI i))] [] (zA4 μ (fmP S0 n len i) π g) 0 0 := by
      intro n1
      induction n1 with
      | zero =>
        intro i hi
        have e0 : i = len := by omega
        rw [e0]
        refine J_iload_n (i := 3) hT dX9_formula_74 rfl rfl ?_
        refine J_aload_n (i := 0) hT dX9_formula_75 rfl rfl ?_
        refine R_getI hT fX9_154 rfl dX9_formula_76 (rk hS) ?_
        refine J_topil (((fmP_ne S0 n len len (by decide) _).trans hml)) ?_
        refine J_icmp_ge (tgt := 108) hT dX9_formula_79 (by decide) (fun _ => ?_) (fun q => absurd (nI_le (Nat.le_refl _) (by omega)) q)
        refine J_aload_n (i := 0) hT dX9_formula_108 rfl rfl ?_
        refine J_iconst (v := 0) hT dX9_formula_109 rfl ?_
        refine J_iload_n (i := 1) hT dX9_formula_110 rfl rfl ?_
        refine J_iconst (v := 0) hT dX9_formula_111 rfl ?_
        refine J_iconst (v := 0) hT dX9_formula_112 rfl ?_
        refine J_callV (ci := 9) hY dX9_formula_113 mfX9_keeps miX9_keeps msX9_keeps kX9_296 ⟨by decide, rfl⟩ (rk hS) (c_X9_keeps hZ hS (σ := fmP S0 n len len) hn hV1.2.1 hV1.ri hk.1 hk.2) rfl (by decide) rfl rfl (Nat.le_of_ble_eq_true rfl) (Nat.le_refl _) (Nat.le_refl _) (fun r1 μ1 hq1 => ?_)
        obtain ⟨rfl, g2, rfl, hg2⟩ := hq1
        exact J_iret hT dX9_formula_116 rfl rfl (post g2 hg2) (Nat.le_refl _) (Nat.le_refl _)
      | succ n1 ih =>
        intro i hi
        refine J_iload_n (i := 3) hT dX9_formula_74 rfl rfl ?_
        refine J_aload_n (i := 0) hT dX9_formula_75 rfl rfl ?_
        refine R_getI hT fX9_154 rfl dX9_formula_76 (rk hS) ?_
        refine J_topil (((fmP_ne S0 n len i (by decide) _).trans hml)) ?_
        refine J_icmp_ge (tgt := 108) hT dX9_formula_79 (by decide) (fun q => absurd q (Int32.not_le.mpr (nI_lt (a := i) (b := len) (by omega) (by omega)))) (fun _ => ?_)
        refine J_aload_n (i := 0) hT dX9_formula_82 rfl rfl ?_
        refine R_getP hT fX9_116 rfl dX9_formula_83 (rk hS) (rp_stepCode hS) ?_
        refine J_bipush (v := 30) hT dX9_formula_86 rfl ?_
        refine J_aload_n (i := 0) hT dX9_formula_88 rfl rfl ?_
        refine R_getI hT fX9_277 rfl dX9_formula_89 (rk hS) ?_
        refine J_topil (((fmP_ne S0 n len i (by decide) _).trans hV0.2.1)) ?_
        refine J_imul hT dX9_formula_92 ?_
        refine J_topil ((nI_mul 30 n)) ?_
        refine J_iload_n (i := 3) hT dX9_formula_93 rfl rfl ?_
        refine J_iadd hT dX9_formula_94 ?_
        refine J_topil ((nI_add (30 * n) i)) ?_
        refine J_aload_n (i := 0) hT dX9_formula_95 rfl rfl ?_
        refine R_getP hT fX9_13 rfl dX9_formula_96 (rk hS) (rp_made hS) ?_
        refine J_iload_n (i := 3) hT dX9_formula_99 rfl rfl ?_
        refine R_iald hT dX9_formula_100 (rk_made hS) (rl_made hS) (by first | exact ⟨rfl, by decide⟩ | exact zix_nI (by omega) (by decide) | assumption) ?_
        refine J_topil ((fmP_ne S0 n len i (by decide) i)) ?_
        refine R_iast hT dX9_formula_101 (rk_stepCode hS) (rl_stepCode hS) (by first | exact ⟨rfl, by decide⟩ | exact zix_nI (by omega) (by decide) | assumption) ?_
        refine S_iinc3 hT dX9_formula_102 (nI_inc _) rfl ?_
        refine J_goto (tgt := 74) hT dX9_formula_105 (by decide) ?_
        have := ih (i + 1) (by omega)
        rw [← fmP_s] at this
        exact this
    refine J_aload_n (i := 0) hT dX9_formula_59 rfl rfl ?_
    refine R_getP hT fX9_119 rfl dX9_formula_60 (rk hS) (rp_stepLength hS) ?_
    refine J_aload_n (i := 0) hT dX9_formula_63 rfl rfl ?_
    refine R_getI hT fX9_277 rfl dX9_formula_64 (rk hS) ?_
    refine J_topil (hV0.2.1) ?_
    refine J_aload_n (i := 0) hT dX9_formula_67 rfl rfl ?_
    refine R_getI hT fX9_154 rfl dX9_formula_68 (rk hS) ?_
    refine J_topil (hml) ?_
    refine R_iast hT dX9_formula_71 (rk_stepLength hS) (rl_stepLength hS) (zix_nI hn (by decide)) ?_
    refine J_iconst (v := 0) hT dX9_formula_72 rfl ?_
    refine S_istore3 hT dX9_formula_73 rfl rfl ?_
    rw [← fmP_0]
    exact loop len 0 (Nat.zero_add _)
  refine J_aload_n (i := 0) hT dX9_formula_0 rfl rfl ?_
  refine J_callV (ci := 9) hY dX9_formula_1 mfX9_faultOf miX9_faultOf msX9_faultOf kX9_179 ⟨by decide, rfl⟩ (rk hS) (c_X9_faultOf hZ hS hL hL30 rfl) rfl (by decide) rfl rfl (Nat.le_of_ble_eq_true rfl) (Nat.le_refl _) (Nat.le_refl _) (fun r1 μ1 hq1 => ?_)
  obtain ⟨rfl, S, rfl, hz, hPk⟩ := hq1
  have hPM := hPk hf
  rw [ok3] at hPM
  have hVS := hV.text hz
  refine J_topil (hf) ?_
  refine J_iconst (v := -1) hT dX9_formula_4 rfl ?_
  refine J_icmp_ne (tgt := 12) hT dX9_formula_5 (by decide) (fun q => absurd (rfl) q) (fun _ => ?_)
  refine J_iconst (v := 1) hT dX9_formula_8 rfl ?_
  refine J_goto (tgt := 13) hT dX9_formula_9 (by decide) ?_
  refine S_istore2 hT dX9_formula_13 rfl rfl ?_
  refine J_aload_n (i := 0) hT dX9_formula_14 rfl rfl ?_
  refine J_iload_n (i := 1) hT dX9_formula_15 rfl rfl ?_
  refine R_callS1 hY dX9_formula_16 mfX9_isCell mtX9_isCell kX9_286 (c_X9_isCell hZ) rfl (by decide) rfl rfl (Nat.le_of_ble_eq_true rfl) (Nat.le_refl _) (Nat.le_refl _) ?_
  refine J_topil (cell1 hc) ?_
  refine J_iload_n (i := 2) hT dX9_formula_19 rfl rfl ?_
  refine J_iload_n (i := 2) hT dX9_formula_20 rfl rfl ?_
  refine J_if_eq (tgt := 50) hT dX9_formula_21 (by decide) (fun q => absurd q (by decide)) (fun _ => ?_)
  refine J_iload_n (i := 1) hT dX9_formula_24 rfl rfl ?_
  refine R_callS1 hY dX9_formula_25 mfX9_isCell mtX9_isCell kX9_286 (c_X9_isCell hZ) rfl (by decide) rfl rfl (Nat.le_of_ble_eq_true rfl) (Nat.le_refl _) (Nat.le_refl _) ?_
  refine J_topil (cell1 hc) ?_
  refine J_if_eq (tgt := 50) hT dX9_formula_28 (by decide) (fun q => absurd q (by decide)) (fun _ => ?_)
  refine J_aload_n (i := 0) hT dX9_formula_31 rfl rfl ?_
  refine J_iload_n (i := 1) hT dX9_formula_32 rfl rfl ?_
  refine R_callV1 (ci := 9) hY dX9_formula_33 mfX9_wouldHang miX9_wouldHang msX9_wouldHang kX9_289 ⟨by decide, rfl⟩ (rk hS) (c_X9_wouldHang hZ hS hc (n0 := (rdK (rdF σ L)).1.length) hPM.2.2.2.2.1 hPM.1) rfl (by decide) rfl rfl (Nat.le_of_ble_eq_true rfl) (Nat.le_refl _) (Nat.le_refl _) ?_
  refine J_topil (zbF (hh S hz hPM)) ?_
  refine J_if_ne (tgt := 50) hT dX9_formula_36 (by decide) (fun q => absurd (rfl) q) (fun _ => ?_)
  refine J_aload_n (i := 0) hT dX9_formula_39 rfl rfl ?_
  refine R_callV1 (ci := 9) hY dX9_formula_40 mfX9_hasRoom miX9_hasRoom msX9_hasRoom kX9_292 ⟨by decide, rfl⟩ (rk hS) (c_X9_hasRoom hZ hS) rfl (by decide) rfl rfl (Nat.le_of_ble_eq_true rfl) (Nat.le_refl _) (Nat.le_refl _) ?_
  refine J_topil ((hr1 hVS.2.1 hn)) ?_
  refine J_if_eq (tgt := 50) hT dX9_formula_43 (by decide) (fun q => absurd q (by decide)) (fun _ => ?_)
  refine J_iconst (v := 1) hT dX9_formula_46 rfl ?_
  refine J_goto (tgt := 51) hT dX9_formula_47 (by decide) ?_
  refine R_callV1 (ci := 9) hY dX9_formula_51 mfX9_goes miX9_goes msX9_goes kX9_150 ⟨by decide, rfl⟩ (rk hS) (c_X9_goes hZ hS) rfl (by decide) rfl rfl (Nat.le_of_ble_eq_true rfl) (Nat.le_refl _) (Nat.le_refl _) ?_
  rw [g111]
  refine J_topil (z00) ?_
  refine J_if_ne (tgt := 59) hT dX9_formula_54 (by decide) (fun _ => ?_) (fun q => absurd q (by decide))
  exact main S hz hPM
