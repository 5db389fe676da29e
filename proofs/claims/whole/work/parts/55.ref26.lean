
theorem nI_dec {n : Nat} (h : 0 < n) : nI n + Int32.ofInt (-1) = nI (n - 1) := by
  have e : nI n + Int32.ofInt (-1) = nI n - nI 1 := by rw [Int32.sub_eq_add_neg]; rfl
  rw [e]
  exact nI_sub (a := n) (b := 1) h
theorem PM_pop {σ : Nat → Nat → Int32} {ks os : List Nat} {d : Nat} (h : PM σ ks (d :: os)) : PM (zu σ 67 5 (nI os.length)) ks os := by
  obtain ⟨h1, h2, h3, h4, h5, h6, h7⟩ := h
  simp only [List.length_cons] at h6
  exact ⟨by simpa [zu] using h1, by simp [zu], zOp_mv h3 (fun j _ => by simp [zu]), zOp_mv h4.2 (fun j _ => by simp [zu]), h5, by omega, fun x hx => h7 x (List.mem_cons_of_mem _ hx)⟩

set_option maxRecDepth 100000 in
set_option maxHeartbeats 4000000 in
theorem fo_rest {l : Launch} {Z : zZ} (hZ : zSt l Z) {μ : zMem} {σ σ1 : Nat → Nat → Int32} {π : Nat → Nat → Option Nat} {g : Nat → Nat → Int64} (hS : zRef μ π) {τ : _} (hY : zCy l Z τ mX9_faultOf 2 0 0) {P : Option Value → zMem → Prop} {L p : Nat} {ks op : List Nat} {fr : List (Bool × Nat × Nat)}
    (hL : σ 67 1 = nI L) (hL30 : L ≤ 30) (hp : p < L) (hz : zpf σ σ1) (hP : PM σ1 ks op) (hF : zFr σ1 fr) (hI : IV p ks op fr)
    (K : ∀ w' p' ks' op' fr' σ', zpf σ σ' → PM σ' ks' op' → zFr σ' fr' → IV p' ks' op' fr' → p < p' → p' ≤ L → stF σ L false p ks op fr = .inr (w', p', ks', op', fr') → zJ τ (zFn τ P 0 0) 23 [some (.ref 67), some (.int (nI (fr'.length - 1))), some (.int (zbi w')), some (.int (nI p')), none, none] [] (zA4 μ σ' π g) 0 0)
    (hdd : ¬ 0 < deedN (σ 68 p))
    (K2 : ∀ q, stF σ L false p ks op fr = .inl q → ∀ σ', zpf σ σ' → P (some (.int (nI q))) (zA4 μ σ' π g)) : zJ τ (zFn τ P 0 0) 23 [some (.ref 67), some (.int (nI (fr.length - 1))), some (.int (zbi false)), some (.int (nI p)), none, none] [] (zA4 μ σ1 π g) 0 0 := by
  have hT := hY.1
  have hx : ∀ j, σ1 68 j = σ 68 j := fun j => hz _ _ (by decide) (by decide) (by decide) (by decide) (by decide) (fun q => absurd q.1 (by decide))
  have hL1 : σ1 67 1 = nI L := (hz _ _ (by decide) (by decide) (by decide) (by decide) (by decide) (by decide)).trans hL
  obtain ⟨ik, io⟩ := IV_ks hI
  have hfl := hI.2.2.1
  have hf1 : 1 ≤ fr.length := by have := hI.2.1; omega
  cases fr with
  | nil => exact absurd hf1 (by decide)
  | cons f fs =>
  simp only [List.length_cons, Nat.add_sub_cancel] at *
  have sf := stF_false σ L p ks op f fs
  rw [if_neg hdd] at sf
  have hdl := Int32.not_lt.mp hdd
  have hng : ks.length + ng op ≤ 30 := by have := hI.1; omega
  obtain ⟨c1, c2, c3, c4⟩ := clsF_ok 0 op ks
  by_cases h44 : σ 68 p = 44
  · have n41 : ¬ σ 68 p = 41 := by rw [h44]; decide
    by_cases hfs : fs = []
    · have es := sf.trans ((if_neg (fun q => q.2.1 hfs)).trans (if_neg (fun q => n41 q.1)))
      have hl0 : fs.length = 0 := by rw [hfs]; rfl
      refine J_iload_n (i := 3) hT dX9_faultOf_23 rfl rfl ?_
      refine J_aload_n (i := 0) hT dX9_faultOf_24 rfl rfl ?_
      refine R_getI hT fX9_147 rfl dX9_faultOf_25 (rk hS) ?_
      refine J_topil (hL1) ?_
      refine J_icmp_ge (tgt := 486) hT dX9_faultOf_28 (by decide) (fun q => absurd q (Int32.not_le.mpr (nI_lt (a := p) (b := L) hp (by omega)))) (fun _ => ?_)
      refine J_aload_n (i := 0) hT dX9_faultOf_31 rfl rfl ?_
      refine R_getP hT fX9_7 rfl dX9_faultOf_32 (rk hS) (rp_text hS) ?_
      refine J_iload_n (i := 3) hT dX9_faultOf_35 rfl rfl ?_
      refine R_iald hT dX9_faultOf_36 (rk_text hS) (rl_text hS) (by first | exact ⟨rfl, by decide⟩ | exact zix_nI (by omega) (by decide) | assumption) ?_
      refine J_topil (hx p) ?_
      refine S_istore4 hT dX9_faultOf_37 rfl ?_
      refine J_iload_n (i := 2) hT dX9_faultOf_39 rfl rfl ?_
      refine J_if_eq (tgt := 62) hT dX9_faultOf_40 (by decide) (fun _ => ?_) (fun q => absurd (rfl) q)
      refine J_iload_n (i := 2) hT dX9_faultOf_62 rfl rfl ?_
      refine J_if_eq (tgt := 96) hT dX9_faultOf_63 (by decide) (fun _ => ?_) (fun q => absurd (rfl) q)
      refine J_iload_n (i := 2) hT dX9_faultOf_96 rfl rfl ?_
      refine J_if_eq (tgt := 118) hT dX9_faultOf_97 (by decide) (fun _ => ?_) (fun q => absurd (rfl) q)
      refine J_iload_n (i := 2) hT dX9_faultOf_118 rfl rfl ?_
      refine J_if_eq (tgt := 232) hT dX9_faultOf_119 (by decide) (fun _ => ?_) (fun q => absurd (rfl) q)
      refine J_iload_n (i := 2) hT dX9_faultOf_232 rfl rfl ?_
      refine J_if_eq (tgt := 238) hT dX9_faultOf_233 (by decide) (fun _ => ?_) (fun q => absurd (rfl) q)
      refine J_iload (i := 4) hT dX9_faultOf_238 rfl ?_
      refine R_callS1 hY dX9_faultOf_240 mfX9_deedOf mtX9_deedOf kX9_143 (c_X9_deedOf hZ) rfl (by decide) rfl rfl (Nat.le_of_ble_eq_true rfl) (Nat.le_refl _) (Nat.le_refl _) ?_
      refine J_if_le (tgt := 332) hT dX9_faultOf_243 (by decide) (fun _ => ?_) (fun q => absurd (hdl) q)
      refine J_iload (i := 4) hT dX9_faultOf_332 rfl ?_
      refine J_bipush (v := 44) hT dX9_faultOf_334 rfl ?_
      refine J_icmp_ne (tgt := 383) hT dX9_faultOf_336 (by decide) (fun q => absurd (h44) q) (fun _ => ?_)
      refine J_iload_n (i := 1) hT dX9_faultOf_339 rfl rfl ?_
      refine J_if_le (tgt := 383) hT dX9_faultOf_340 (by decide) (fun _ => ?_) (fun q => absurd ((show nI fs.length ≤ 0 by rw [hl0]; decide)) q)
      refine J_iload (i := 4) hT dX9_faultOf_383 rfl ?_
      refine J_bipush (v := 41) hT dX9_faultOf_385 rfl ?_
      refine J_icmp_ne (tgt := 481) hT dX9_faultOf_387 (by decide) (fun _ => ?_) (fun q => absurd q (n41))
      refine J_iload_n (i := 3) hT dX9_faultOf_481 rfl rfl ?_
      exact J_iret hT dX9_faultOf_482 rfl rfl (K2 _ es _ hz) (Nat.le_refl _) (Nat.le_refl _)
    · have hl : 0 < fs.length := List.length_pos_iff.mpr hfs
      obtain ⟨a72, a73⟩ := hF.2.1 hfs
      have h3 := (hI.2.2.2.2 f (List.mem_cons_self ..)).2
      by_cases ha : 1 < f.2.2
      · have es := sf.trans (if_pos ⟨h44, hfs, ha⟩)
        refine J_iload_n (i := 3) hT dX9_faultOf_23 rfl rfl ?_
        refine J_aload_n (i := 0) hT dX9_faultOf_24 rfl rfl ?_
        refine R_getI hT fX9_147 rfl dX9_faultOf_25 (rk hS) ?_
        refine J_topil (hL1) ?_
        refine J_icmp_ge (tgt := 486) hT dX9_faultOf_28 (by decide) (fun q => absurd q (Int32.not_le.mpr (nI_lt (a := p) (b := L) hp (by omega)))) (fun _ => ?_)
        refine J_aload_n (i := 0) hT dX9_faultOf_31 rfl rfl ?_
        refine R_getP hT fX9_7 rfl dX9_faultOf_32 (rk hS) (rp_text hS) ?_
        refine J_iload_n (i := 3) hT dX9_faultOf_35 rfl rfl ?_
        refine R_iald hT dX9_faultOf_36 (rk_text hS) (rl_text hS) (by first | exact ⟨rfl, by decide⟩ | exact zix_nI (by omega) (by decide) | assumption) ?_
        refine J_topil (hx p) ?_
        refine S_istore4 hT dX9_faultOf_37 rfl ?_
        refine J_iload_n (i := 2) hT dX9_faultOf_39 rfl rfl ?_
        refine J_if_eq (tgt := 62) hT dX9_faultOf_40 (by decide) (fun _ => ?_) (fun q => absurd (rfl) q)
        refine J_iload_n (i := 2) hT dX9_faultOf_62 rfl rfl ?_
        refine J_if_eq (tgt := 96) hT dX9_faultOf_63 (by decide) (fun _ => ?_) (fun q => absurd (rfl) q)
        refine J_iload_n (i := 2) hT dX9_faultOf_96 rfl rfl ?_
        refine J_if_eq (tgt := 118) hT dX9_faultOf_97 (by decide) (fun _ => ?_) (fun q => absurd (rfl) q)
        refine J_iload_n (i := 2) hT dX9_faultOf_118 rfl rfl ?_
        refine J_if_eq (tgt := 232) hT dX9_faultOf_119 (by decide) (fun _ => ?_) (fun q => absurd (rfl) q)
        refine J_iload_n (i := 2) hT dX9_faultOf_232 rfl rfl ?_
        refine J_if_eq (tgt := 238) hT dX9_faultOf_233 (by decide) (fun _ => ?_) (fun q => absurd (rfl) q)
        refine J_iload (i := 4) hT dX9_faultOf_238 rfl ?_
        refine R_callS1 hY dX9_faultOf_240 mfX9_deedOf mtX9_deedOf kX9_143 (c_X9_deedOf hZ) rfl (by decide) rfl rfl (Nat.le_of_ble_eq_true rfl) (Nat.le_refl _) (Nat.le_refl _) ?_
        refine J_if_le (tgt := 332) hT dX9_faultOf_243 (by decide) (fun _ => ?_) (fun q => absurd (hdl) q)
        refine J_iload (i := 4) hT dX9_faultOf_332 rfl ?_
        refine J_bipush (v := 44) hT dX9_faultOf_334 rfl ?_
        refine J_icmp_ne (tgt := 383) hT dX9_faultOf_336 (by decide) (fun q => absurd (h44) q) (fun _ => ?_)
        refine J_iload_n (i := 1) hT dX9_faultOf_339 rfl rfl ?_
        refine J_if_le (tgt := 383) hT dX9_faultOf_340 (by decide) (fun q => absurd q (Int32.not_le.mpr (nI_lt (a := 0) (b := fs.length) hl (by omega)))) (fun _ => ?_)
        refine J_aload_n (i := 0) hT dX9_faultOf_343 rfl rfl ?_
        refine R_getP hT fX9_26 rfl dX9_faultOf_344 (rk hS) (rp_args hS) ?_
        refine J_iload_n (i := 1) hT dX9_faultOf_347 rfl rfl ?_
        refine R_iald hT dX9_faultOf_348 (rk_args hS) (rl_args hS) (by first | exact ⟨rfl, by decide⟩ | exact zix_nI (by omega) (by decide) | assumption) ?_
        refine J_topil (a73) ?_
        refine J_iconst (v := 1) hT dX9_faultOf_349 rfl ?_
        refine J_icmp_le (tgt := 383) hT dX9_faultOf_350 (by decide) (fun q => absurd q (Int32.not_le.mpr (nI_lt (a := 1) (b := f.2.2) ha (by omega)))) (fun _ => ?_)
        refine J_aload_n (i := 0) hT dX9_faultOf_353 rfl rfl ?_
        refine J_iconst (v := 0) hT dX9_faultOf_354 rfl ?_
        refine J_callV (ci := 9) hY dX9_faultOf_355 mfX9_closes miX9_closes msX9_closes kX9_176 ⟨by decide, rfl⟩ (rk hS) (c_X9_closes hZ hS (rr := 0) (by omega) hP hng) rfl (by decide) rfl rfl (Nat.le_of_ble_eq_true rfl) (Nat.le_refl _) (Nat.le_refl _) (fun r1 μ1 hq1 => ?_)
        obtain ⟨rfl, S2, rfl, hc2, hP2⟩ := hq1
        refine J_aload_n (i := 0) hT dX9_faultOf_358 rfl rfl ?_
        refine R_getP hT fX9_26 rfl dX9_faultOf_359 (rk hS) (rp_args hS) ?_
        refine J_iload_n (i := 1) hT dX9_faultOf_362 rfl rfl ?_
        refine J_dup2 hT dX9_faultOf_363 rfl rfl ?_
        refine R_iald hT dX9_faultOf_364 (rk_args hS) (rl_args hS) (by first | exact ⟨rfl, by decide⟩ | exact zix_nI (by omega) (by decide) | assumption) ?_
        refine J_topil (((hc2 _ _ (by decide) (fun q => absurd q.1 (by decide))).trans a73)) ?_
        refine J_iconst (v := 1) hT dX9_faultOf_365 rfl ?_
        refine J_isub hT dX9_faultOf_366 ?_
        refine J_topil ((nI_sub (a := f.2.2) (b := 1) (by omega))) ?_
        refine R_iast hT dX9_faultOf_367 (rk_args hS) (rl_args hS) (by first | exact ⟨rfl, by decide⟩ | exact zix_nI (by omega) (by decide) | assumption) ?_
        refine J_aload_n (i := 0) hT dX9_faultOf_368 rfl rfl ?_
        refine R_getP hT fX9_19 rfl dX9_faultOf_369 (rk hS) (rp_hasCompared hS) ?_
        refine J_iload_n (i := 1) hT dX9_faultOf_372 rfl rfl ?_
        refine J_iconst (v := 0) hT dX9_faultOf_373 rfl ?_
        refine R_zast hT dX9_faultOf_374 (rk_hasCompared hS) (rl_hasCompared hS) (by first | exact ⟨rfl, by decide⟩ | exact zix_nI (by omega) (by decide) | assumption) (by decide) ?_
        refine J_iconst (v := 1) hT dX9_faultOf_375 rfl ?_
        refine S_istore2 hT dX9_faultOf_376 rfl rfl ?_
        refine S_iinc3 hT dX9_faultOf_377 (nI_inc _) rfl ?_
        refine J_goto (tgt := 483) hT dX9_faultOf_380 (by decide) ?_
        refine J_goto (tgt := 23) hT dX9_faultOf_483 (by decide) ?_
        refine J_L (L' := [_, _, _, _, none, none]) (zsub_keep (zsub_keep (zsub_keep (zsub_keep (zsub_drop (zsub_drop (zsub_refl _))))))) ?_
        refine K true (p + 1) _ _ ((false, f.2.1, f.2.2 - 1) :: fs) _ (zpf_trans hz (zpf_trans (zpf_c hc2) (zpf_trans (zpf_u S2 73 fs.length (nI (f.2.2 - 1)) (by simp)) (zpf_u _ 71 fs.length 0 (by simp))))) (PM_mv hP2 (fun b hb j => by rcases hb with rfl | rfl | rfl <;> simp [zu])) ?_ (IV_comma hI _) (by omega) (by omega) es
        refine ⟨by simp [zu, zbi], fun _ => ⟨?_, by simp [zu]⟩, zFr_mv hF.2.2 (fun b hb j hj => ?_)⟩
        · simp only [zu, show ¬ (72 : Nat) = 71 by decide, show ¬ (72 : Nat) = 73 by decide, false_and, if_false]
          exact ((hc2 _ _ (by decide) (fun q => absurd q.1 (by decide))).trans a72)
        · have hne : ¬ j = fs.length := by omega
          have e := hc2 b j (by rcases hb with rfl | rfl | rfl <;> decide) (fun q => absurd q.1 (by rcases hb with rfl | rfl | rfl <;> decide))
          rcases hb with rfl | rfl | rfl <;> simp [zu, hne] <;> exact e
      · have es := sf.trans ((if_neg (fun q => ha q.2.2)).trans (if_neg (fun q => n41 q.1)))
        refine J_iload_n (i := 3) hT dX9_faultOf_23 rfl rfl ?_
        refine J_aload_n (i := 0) hT dX9_faultOf_24 rfl rfl ?_
        refine R_getI hT fX9_147 rfl dX9_faultOf_25 (rk hS) ?_
        refine J_topil (hL1) ?_
        refine J_icmp_ge (tgt := 486) hT dX9_faultOf_28 (by decide) (fun q => absurd q (Int32.not_le.mpr (nI_lt (a := p) (b := L) hp (by omega)))) (fun _ => ?_)
        refine J_aload_n (i := 0) hT dX9_faultOf_31 rfl rfl ?_
        refine R_getP hT fX9_7 rfl dX9_faultOf_32 (rk hS) (rp_text hS) ?_
        refine J_iload_n (i := 3) hT dX9_faultOf_35 rfl rfl ?_
        refine R_iald hT dX9_faultOf_36 (rk_text hS) (rl_text hS) (by first | exact ⟨rfl, by decide⟩ | exact zix_nI (by omega) (by decide) | assumption) ?_
        refine J_topil (hx p) ?_
        refine S_istore4 hT dX9_faultOf_37 rfl ?_
        refine J_iload_n (i := 2) hT dX9_faultOf_39 rfl rfl ?_
        refine J_if_eq (tgt := 62) hT dX9_faultOf_40 (by decide) (fun _ => ?_) (fun q => absurd (rfl) q)
        refine J_iload_n (i := 2) hT dX9_faultOf_62 rfl rfl ?_
        refine J_if_eq (tgt := 96) hT dX9_faultOf_63 (by decide) (fun _ => ?_) (fun q => absurd (rfl) q)
        refine J_iload_n (i := 2) hT dX9_faultOf_96 rfl rfl ?_
        refine J_if_eq (tgt := 118) hT dX9_faultOf_97 (by decide) (fun _ => ?_) (fun q => absurd (rfl) q)
        refine J_iload_n (i := 2) hT dX9_faultOf_118 rfl rfl ?_
        refine J_if_eq (tgt := 232) hT dX9_faultOf_119 (by decide) (fun _ => ?_) (fun q => absurd (rfl) q)
        refine J_iload_n (i := 2) hT dX9_faultOf_232 rfl rfl ?_
        refine J_if_eq (tgt := 238) hT dX9_faultOf_233 (by decide) (fun _ => ?_) (fun q => absurd (rfl) q)
        refine J_iload (i := 4) hT dX9_faultOf_238 rfl ?_
        refine R_callS1 hY dX9_faultOf_240 mfX9_deedOf mtX9_deedOf kX9_143 (c_X9_deedOf hZ) rfl (by decide) rfl rfl (Nat.le_of_ble_eq_true rfl) (Nat.le_refl _) (Nat.le_refl _) ?_
        refine J_if_le (tgt := 332) hT dX9_faultOf_243 (by decide) (fun _ => ?_) (fun q => absurd (hdl) q)
        refine J_iload (i := 4) hT dX9_faultOf_332 rfl ?_
        refine J_bipush (v := 44) hT dX9_faultOf_334 rfl ?_
        refine J_icmp_ne (tgt := 383) hT dX9_faultOf_336 (by decide) (fun q => absurd (h44) q) (fun _ => ?_)
        refine J_iload_n (i := 1) hT dX9_faultOf_339 rfl rfl ?_
        refine J_if_le (tgt := 383) hT dX9_faultOf_340 (by decide) (fun q => absurd q (Int32.not_le.mpr (nI_lt (a := 0) (b := fs.length) hl (by omega)))) (fun _ => ?_)
        refine J_aload_n (i := 0) hT dX9_faultOf_343 rfl rfl ?_
        refine R_getP hT fX9_26 rfl dX9_faultOf_344 (rk hS) (rp_args hS) ?_
        refine J_iload_n (i := 1) hT dX9_faultOf_347 rfl rfl ?_
        refine R_iald hT dX9_faultOf_348 (rk_args hS) (rl_args hS) (by first | exact ⟨rfl, by decide⟩ | exact zix_nI (by omega) (by decide) | assumption) ?_
        refine J_topil (a73) ?_
        refine J_iconst (v := 1) hT dX9_faultOf_349 rfl ?_
        refine J_icmp_le (tgt := 383) hT dX9_faultOf_350 (by decide) (fun _ => ?_) (fun q => absurd (nI_le (a := f.2.2) (b := 1) (by omega) (by decide)) q)
        refine J_iload (i := 4) hT dX9_faultOf_383 rfl ?_
        refine J_bipush (v := 41) hT dX9_faultOf_385 rfl ?_
        refine J_icmp_ne (tgt := 481) hT dX9_faultOf_387 (by decide) (fun _ => ?_) (fun q => absurd q (n41))
        refine J_iload_n (i := 3) hT dX9_faultOf_481 rfl rfl ?_
        exact J_iret hT dX9_faultOf_482 rfl rfl (K2 _ es _ hz) (Nat.le_refl _) (Nat.le_refl _)
  · rw [if_neg (fun q => h44 q.1)] at sf
    by_cases h41 : σ 68 p = 41
    · by_cases hfs : fs = []
      · have es := sf.trans (if_neg (fun q => q.2.1 hfs))
        have hl0 : fs.length = 0 := by rw [hfs]; rfl
        refine J_iload_n (i := 3) hT dX9_faultOf_23 rfl rfl ?_
        refine J_aload_n (i := 0) hT dX9_faultOf_24 rfl rfl ?_
        refine R_getI hT fX9_147 rfl dX9_faultOf_25 (rk hS) ?_
        refine J_topil (hL1) ?_
        refine J_icmp_ge (tgt := 486) hT dX9_faultOf_28 (by decide) (fun q => absurd q (Int32.not_le.mpr (nI_lt (a := p) (b := L) hp (by omega)))) (fun _ => ?_)
        refine J_aload_n (i := 0) hT dX9_faultOf_31 rfl rfl ?_
        refine R_getP hT fX9_7 rfl dX9_faultOf_32 (rk hS) (rp_text hS) ?_
        refine J_iload_n (i := 3) hT dX9_faultOf_35 rfl rfl ?_
        refine R_iald hT dX9_faultOf_36 (rk_text hS) (rl_text hS) (by first | exact ⟨rfl, by decide⟩ | exact zix_nI (by omega) (by decide) | assumption) ?_
        refine J_topil (hx p) ?_
        refine S_istore4 hT dX9_faultOf_37 rfl ?_
        refine J_iload_n (i := 2) hT dX9_faultOf_39 rfl rfl ?_
        refine J_if_eq (tgt := 62) hT dX9_faultOf_40 (by decide) (fun _ => ?_) (fun q => absurd (rfl) q)
        refine J_iload_n (i := 2) hT dX9_faultOf_62 rfl rfl ?_
        refine J_if_eq (tgt := 96) hT dX9_faultOf_63 (by decide) (fun _ => ?_) (fun q => absurd (rfl) q)
        refine J_iload_n (i := 2) hT dX9_faultOf_96 rfl rfl ?_
        refine J_if_eq (tgt := 118) hT dX9_faultOf_97 (by decide) (fun _ => ?_) (fun q => absurd (rfl) q)
        refine J_iload_n (i := 2) hT dX9_faultOf_118 rfl rfl ?_
        refine J_if_eq (tgt := 232) hT dX9_faultOf_119 (by decide) (fun _ => ?_) (fun q => absurd (rfl) q)
        refine J_iload_n (i := 2) hT dX9_faultOf_232 rfl rfl ?_
        refine J_if_eq (tgt := 238) hT dX9_faultOf_233 (by decide) (fun _ => ?_) (fun q => absurd (rfl) q)
        refine J_iload (i := 4) hT dX9_faultOf_238 rfl ?_
        refine R_callS1 hY dX9_faultOf_240 mfX9_deedOf mtX9_deedOf kX9_143 (c_X9_deedOf hZ) rfl (by decide) rfl rfl (Nat.le_of_ble_eq_true rfl) (Nat.le_refl _) (Nat.le_refl _) ?_
        refine J_if_le (tgt := 332) hT dX9_faultOf_243 (by decide) (fun _ => ?_) (fun q => absurd (hdl) q)
        refine J_iload (i := 4) hT dX9_faultOf_332 rfl ?_
        refine J_bipush (v := 44) hT dX9_faultOf_334 rfl ?_
        refine J_icmp_ne (tgt := 383) hT dX9_faultOf_336 (by decide) (fun _ => ?_) (fun q => absurd q (h44))
        refine J_iload (i := 4) hT dX9_faultOf_383 rfl ?_
        refine J_bipush (v := 41) hT dX9_faultOf_385 rfl ?_
        refine J_icmp_ne (tgt := 481) hT dX9_faultOf_387 (by decide) (fun q => absurd (h41) q) (fun _ => ?_)
        refine J_iload_n (i := 1) hT dX9_faultOf_390 rfl rfl ?_
        refine J_if_le (tgt := 481) hT dX9_faultOf_391 (by decide) (fun _ => ?_) (fun q => absurd ((show nI fs.length ≤ 0 by rw [hl0]; decide)) q)
        refine J_iload_n (i := 3) hT dX9_faultOf_481 rfl rfl ?_
        exact J_iret hT dX9_faultOf_482 rfl rfl (K2 _ es _ hz) (Nat.le_refl _) (Nat.le_refl _)
      · have hl : 0 < fs.length := List.length_pos_iff.mpr hfs
        obtain ⟨a72, a73⟩ := hF.2.1 hfs
        obtain ⟨o7, h3⟩ := hI.2.2.2.2 f (List.mem_cons_self ..)
        by_cases ha : f.2.2 = 1
        · have es := sf.trans (if_pos ⟨h41, hfs, ha⟩)
          obtain ⟨os, eos, hIs, hlt⟩ := IV_shut hI hfs (30000 + (if f.2.1 = 109 then 8 else if f.2.1 = 110 then 9 else 10))
          rw [eos, List.tail_cons] at es
          by_cases o40 : f.2.1 = 40
          · rw [if_neg (fun q => q o40)] at es hIs
            refine J_iload_n (i := 3) hT dX9_faultOf_23 rfl rfl ?_
            refine J_aload_n (i := 0) hT dX9_faultOf_24 rfl rfl ?_
            refine R_getI hT fX9_147 rfl dX9_faultOf_25 (rk hS) ?_
            refine J_topil (hL1) ?_
            refine J_icmp_ge (tgt := 486) hT dX9_faultOf_28 (by decide) (fun q => absurd q (Int32.not_le.mpr (nI_lt (a := p) (b := L) hp (by omega)))) (fun _ => ?_)
            refine J_aload_n (i := 0) hT dX9_faultOf_31 rfl rfl ?_
            refine R_getP hT fX9_7 rfl dX9_faultOf_32 (rk hS) (rp_text hS) ?_
            refine J_iload_n (i := 3) hT dX9_faultOf_35 rfl rfl ?_
            refine R_iald hT dX9_faultOf_36 (rk_text hS) (rl_text hS) (by first | exact ⟨rfl, by decide⟩ | exact zix_nI (by omega) (by decide) | assumption) ?_
            refine J_topil (hx p) ?_
            refine S_istore4 hT dX9_faultOf_37 rfl ?_
            refine J_iload_n (i := 2) hT dX9_faultOf_39 rfl rfl ?_
            refine J_if_eq (tgt := 62) hT dX9_faultOf_40 (by decide) (fun _ => ?_) (fun q => absurd (rfl) q)
            refine J_iload_n (i := 2) hT dX9_faultOf_62 rfl rfl ?_
            refine J_if_eq (tgt := 96) hT dX9_faultOf_63 (by decide) (fun _ => ?_) (fun q => absurd (rfl) q)
            refine J_iload_n (i := 2) hT dX9_faultOf_96 rfl rfl ?_
            refine J_if_eq (tgt := 118) hT dX9_faultOf_97 (by decide) (fun _ => ?_) (fun q => absurd (rfl) q)
            refine J_iload_n (i := 2) hT dX9_faultOf_118 rfl rfl ?_
            refine J_if_eq (tgt := 232) hT dX9_faultOf_119 (by decide) (fun _ => ?_) (fun q => absurd (rfl) q)
            refine J_iload_n (i := 2) hT dX9_faultOf_232 rfl rfl ?_
            refine J_if_eq (tgt := 238) hT dX9_faultOf_233 (by decide) (fun _ => ?_) (fun q => absurd (rfl) q)
            refine J_iload (i := 4) hT dX9_faultOf_238 rfl ?_
            refine R_callS1 hY dX9_faultOf_240 mfX9_deedOf mtX9_deedOf kX9_143 (c_X9_deedOf hZ) rfl (by decide) rfl rfl (Nat.le_of_ble_eq_true rfl) (Nat.le_refl _) (Nat.le_refl _) ?_
            refine J_if_le (tgt := 332) hT dX9_faultOf_243 (by decide) (fun _ => ?_) (fun q => absurd (hdl) q)
            refine J_iload (i := 4) hT dX9_faultOf_332 rfl ?_
            refine J_bipush (v := 44) hT dX9_faultOf_334 rfl ?_
            refine J_icmp_ne (tgt := 383) hT dX9_faultOf_336 (by decide) (fun _ => ?_) (fun q => absurd q (h44))
            refine J_iload (i := 4) hT dX9_faultOf_383 rfl ?_
            refine J_bipush (v := 41) hT dX9_faultOf_385 rfl ?_
            refine J_icmp_ne (tgt := 481) hT dX9_faultOf_387 (by decide) (fun q => absurd (h41) q) (fun _ => ?_)
            refine J_iload_n (i := 1) hT dX9_faultOf_390 rfl rfl ?_
            refine J_if_le (tgt := 481) hT dX9_faultOf_391 (by decide) (fun q => absurd q (Int32.not_le.mpr (nI_lt (a := 0) (b := fs.length) hl (by omega)))) (fun _ => ?_)
            refine J_aload_n (i := 0) hT dX9_faultOf_394 rfl rfl ?_
            refine R_getP hT fX9_26 rfl dX9_faultOf_395 (rk hS) (rp_args hS) ?_
            refine J_iload_n (i := 1) hT dX9_faultOf_398 rfl rfl ?_
            refine R_iald hT dX9_faultOf_399 (rk_args hS) (rl_args hS) (by first | exact ⟨rfl, by decide⟩ | exact zix_nI (by omega) (by decide) | assumption) ?_
            refine J_topil (a73) ?_
            refine J_iconst (v := 1) hT dX9_faultOf_400 rfl ?_
            refine J_icmp_ne (tgt := 481) hT dX9_faultOf_401 (by decide) (fun q => absurd ((show nI f.2.2 = 1 by rw [ha]; rfl)) q) (fun _ => ?_)
            refine J_aload_n (i := 0) hT dX9_faultOf_404 rfl rfl ?_
            refine J_iconst (v := 0) hT dX9_faultOf_405 rfl ?_
            refine J_callV (ci := 9) hY dX9_faultOf_406 mfX9_closes miX9_closes msX9_closes kX9_176 ⟨by decide, rfl⟩ (rk hS) (c_X9_closes hZ hS (rr := 0) (by omega) hP hng) rfl (by decide) rfl rfl (Nat.le_of_ble_eq_true rfl) (Nat.le_refl _) (Nat.le_refl _) (fun r1 μ1 hq1 => ?_)
            obtain ⟨rfl, S2, rfl, hc2, hP2⟩ := hq1
            refine J_aload_n (i := 0) hT dX9_faultOf_409 rfl rfl ?_
            refine J_dup hT dX9_faultOf_410 rfl ?_
            refine R_getI hT fX9_157 rfl dX9_faultOf_411 (rk hS) ?_
            refine J_topil ((show S2 67 5 = nI (os.length + 1) by rw [hP2.2.1, eos]; rfl)) ?_
            refine J_iconst (v := 1) hT dX9_faultOf_414 rfl ?_
            refine J_isub hT dX9_faultOf_415 ?_
            refine J_topil ((nI_pred os.length)) ?_
            refine R_putI hT fX9_157 rfl rfl dX9_faultOf_416 (rk hS) ?_
            refine J_aload_n (i := 0) hT dX9_faultOf_419 rfl rfl ?_
            refine R_getP hT fX9_23 rfl dX9_faultOf_420 (rk hS) (rp_opens hS) ?_
            refine J_iload_n (i := 1) hT dX9_faultOf_423 rfl rfl ?_
            refine R_iald hT dX9_faultOf_424 (rk_opens hS) (rl_opens hS) (by first | exact ⟨rfl, by decide⟩ | exact zix_nI (by omega) (by decide) | assumption) ?_
            refine J_topil (((zu_ne _ _ _ _ (by decide) _).trans ((hc2 _ _ (by decide) (fun q => absurd q.1 (by decide))).trans a72))) ?_
            refine J_bipush (v := 40) hT dX9_faultOf_425 rfl ?_
            refine J_icmp_eq (tgt := 472) hT dX9_faultOf_427 (by decide) (fun _ => ?_) (fun q => absurd (congrArg nI o40) q)
            refine S_iinc1 hT dX9_faultOf_472 (nI_dec hl) rfl ?_
            refine S_iinc3 hT dX9_faultOf_475 (nI_inc _) rfl ?_
            refine J_goto (tgt := 483) hT dX9_faultOf_478 (by decide) ?_
            refine J_goto (tgt := 23) hT dX9_faultOf_483 (by decide) ?_
            refine J_L (L' := [_, _, _, _, none, none]) (zsub_keep (zsub_keep (zsub_keep (zsub_keep (zsub_drop (zsub_drop (zsub_refl _))))))) ?_
            exact K false (p + 1) _ _ fs _ (zpf_trans hz (zpf_trans (zpf_c hc2) (zpf_u _ _ _ _ (by simp)))) (PM_pop (show PM S2 (clsF 0 ks op).1 (11 :: os) by rw [← eos]; exact hP2)) (zFr_o (zFr_c hF.2.2 hc2) (by decide) _ _) hIs (by omega) (by omega) es
          · rw [if_pos o40] at es hIs
            have hlt := hlt o40
            by_cases o109 : f.2.1 = 109
            · rw [if_pos o109] at es hIs
              refine J_iload_n (i := 3) hT dX9_faultOf_23 rfl rfl ?_
              refine J_aload_n (i := 0) hT dX9_faultOf_24 rfl rfl ?_
              refine R_getI hT fX9_147 rfl dX9_faultOf_25 (rk hS) ?_
              refine J_topil (hL1) ?_
              refine J_icmp_ge (tgt := 486) hT dX9_faultOf_28 (by decide) (fun q => absurd q (Int32.not_le.mpr (nI_lt (a := p) (b := L) hp (by omega)))) (fun _ => ?_)
              refine J_aload_n (i := 0) hT dX9_faultOf_31 rfl rfl ?_
              refine R_getP hT fX9_7 rfl dX9_faultOf_32 (rk hS) (rp_text hS) ?_
              refine J_iload_n (i := 3) hT dX9_faultOf_35 rfl rfl ?_
              refine R_iald hT dX9_faultOf_36 (rk_text hS) (rl_text hS) (by first | exact ⟨rfl, by decide⟩ | exact zix_nI (by omega) (by decide) | assumption) ?_
              refine J_topil (hx p) ?_
              refine S_istore4 hT dX9_faultOf_37 rfl ?_
              refine J_iload_n (i := 2) hT dX9_faultOf_39 rfl rfl ?_
              refine J_if_eq (tgt := 62) hT dX9_faultOf_40 (by decide) (fun _ => ?_) (fun q => absurd (rfl) q)
              refine J_iload_n (i := 2) hT dX9_faultOf_62 rfl rfl ?_
              refine J_if_eq (tgt := 96) hT dX9_faultOf_63 (by decide) (fun _ => ?_) (fun q => absurd (rfl) q)
              refine J_iload_n (i := 2) hT dX9_faultOf_96 rfl rfl ?_
              refine J_if_eq (tgt := 118) hT dX9_faultOf_97 (by decide) (fun _ => ?_) (fun q => absurd (rfl) q)
              refine J_iload_n (i := 2) hT dX9_faultOf_118 rfl rfl ?_
              refine J_if_eq (tgt := 232) hT dX9_faultOf_119 (by decide) (fun _ => ?_) (fun q => absurd (rfl) q)
              refine J_iload_n (i := 2) hT dX9_faultOf_232 rfl rfl ?_
              refine J_if_eq (tgt := 238) hT dX9_faultOf_233 (by decide) (fun _ => ?_) (fun q => absurd (rfl) q)
              refine J_iload (i := 4) hT dX9_faultOf_238 rfl ?_
              refine R_callS1 hY dX9_faultOf_240 mfX9_deedOf mtX9_deedOf kX9_143 (c_X9_deedOf hZ) rfl (by decide) rfl rfl (Nat.le_of_ble_eq_true rfl) (Nat.le_refl _) (Nat.le_refl _) ?_
              refine J_if_le (tgt := 332) hT dX9_faultOf_243 (by decide) (fun _ => ?_) (fun q => absurd (hdl) q)
              refine J_iload (i := 4) hT dX9_faultOf_332 rfl ?_
              refine J_bipush (v := 44) hT dX9_faultOf_334 rfl ?_
              refine J_icmp_ne (tgt := 383) hT dX9_faultOf_336 (by decide) (fun _ => ?_) (fun q => absurd q (h44))
              refine J_iload (i := 4) hT dX9_faultOf_383 rfl ?_
              refine J_bipush (v := 41) hT dX9_faultOf_385 rfl ?_
              refine J_icmp_ne (tgt := 481) hT dX9_faultOf_387 (by decide) (fun q => absurd (h41) q) (fun _ => ?_)
              refine J_iload_n (i := 1) hT dX9_faultOf_390 rfl rfl ?_
              refine J_if_le (tgt := 481) hT dX9_faultOf_391 (by decide) (fun q => absurd q (Int32.not_le.mpr (nI_lt (a := 0) (b := fs.length) hl (by omega)))) (fun _ => ?_)
              refine J_aload_n (i := 0) hT dX9_faultOf_394 rfl rfl ?_
              refine R_getP hT fX9_26 rfl dX9_faultOf_395 (rk hS) (rp_args hS) ?_
              refine J_iload_n (i := 1) hT dX9_faultOf_398 rfl rfl ?_
              refine R_iald hT dX9_faultOf_399 (rk_args hS) (rl_args hS) (by first | exact ⟨rfl, by decide⟩ | exact zix_nI (by omega) (by decide) | assumption) ?_
              refine J_topil (a73) ?_
              refine J_iconst (v := 1) hT dX9_faultOf_400 rfl ?_
              refine J_icmp_ne (tgt := 481) hT dX9_faultOf_401 (by decide) (fun q => absurd ((show nI f.2.2 = 1 by rw [ha]; rfl)) q) (fun _ => ?_)
              refine J_aload_n (i := 0) hT dX9_faultOf_404 rfl rfl ?_
              refine J_iconst (v := 0) hT dX9_faultOf_405 rfl ?_
              refine J_callV (ci := 9) hY dX9_faultOf_406 mfX9_closes miX9_closes msX9_closes kX9_176 ⟨by decide, rfl⟩ (rk hS) (c_X9_closes hZ hS (rr := 0) (by omega) hP hng) rfl (by decide) rfl rfl (Nat.le_of_ble_eq_true rfl) (Nat.le_refl _) (Nat.le_refl _) (fun r1 μ1 hq1 => ?_)
              obtain ⟨rfl, S2, rfl, hc2, hP2⟩ := hq1
              refine J_aload_n (i := 0) hT dX9_faultOf_409 rfl rfl ?_
              refine J_dup hT dX9_faultOf_410 rfl ?_
              refine R_getI hT fX9_157 rfl dX9_faultOf_411 (rk hS) ?_
              refine J_topil ((show S2 67 5 = nI (os.length + 1) by rw [hP2.2.1, eos]; rfl)) ?_
              refine J_iconst (v := 1) hT dX9_faultOf_414 rfl ?_
              refine J_isub hT dX9_faultOf_415 ?_
              refine J_topil ((nI_pred os.length)) ?_
              refine R_putI hT fX9_157 rfl rfl dX9_faultOf_416 (rk hS) ?_
              refine J_aload_n (i := 0) hT dX9_faultOf_419 rfl rfl ?_
              refine R_getP hT fX9_23 rfl dX9_faultOf_420 (rk hS) (rp_opens hS) ?_
              refine J_iload_n (i := 1) hT dX9_faultOf_423 rfl rfl ?_
              refine R_iald hT dX9_faultOf_424 (rk_opens hS) (rl_opens hS) (by first | exact ⟨rfl, by decide⟩ | exact zix_nI (by omega) (by decide) | assumption) ?_
              refine J_topil (((zu_ne _ _ _ _ (by decide) _).trans ((hc2 _ _ (by decide) (fun q => absurd q.1 (by decide))).trans a72))) ?_
              refine J_bipush (v := 40) hT dX9_faultOf_425 rfl ?_
              refine J_icmp_eq (tgt := 472) hT dX9_faultOf_427 (by decide) (fun q => absurd q (fun q => o40 ((nI_eq (a := f.2.1) (b := 40) (by omega) (by decide)).mp q))) (fun _ => ?_)
              refine J_aload_n (i := 0) hT dX9_faultOf_430 rfl rfl ?_
              refine J_sipush (v := 30000) hT dX9_faultOf_431 rfl ?_
              refine J_aload_n (i := 0) hT dX9_faultOf_434 rfl rfl ?_
              refine R_getP hT fX9_23 rfl dX9_faultOf_435 (rk hS) (rp_opens hS) ?_
              refine J_iload_n (i := 1) hT dX9_faultOf_438 rfl rfl ?_
              refine R_iald hT dX9_faultOf_439 (rk_opens hS) (rl_opens hS) (by first | exact ⟨rfl, by decide⟩ | exact zix_nI (by omega) (by decide) | assumption) ?_
              refine J_topil (((zu_ne _ _ _ _ (by decide) _).trans ((hc2 _ _ (by decide) (fun q => absurd q.1 (by decide))).trans a72))) ?_
              refine J_bipush (v := 109) hT dX9_faultOf_440 rfl ?_
              refine J_icmp_ne (tgt := 450) hT dX9_faultOf_442 (by decide) (fun q => absurd (congrArg nI o109) q) (fun _ => ?_)
              refine J_bipush (v := 8) hT dX9_faultOf_445 rfl ?_
              refine J_goto (tgt := 468) hT dX9_faultOf_447 (by decide) ?_
              refine J_iadd hT dX9_faultOf_468 ?_
              refine J_topil ((show (30000 : Int32) + 8 = nI (30000 + 8) from rfl)) ?_
              refine R_callV0 (ci := 9) hY dX9_faultOf_469 mfX9_makes miX9_makes msX9_makes kX9_163 ⟨by decide, rfl⟩ (rk hS) (c_X9_makes hZ hS (n := (clsF 0 ks op).1.length) (by omega) (show zu S2 67 5 (nI os.length) 67 3 = _ by simp [zu]; exact hP2.1)) rfl (by decide) rfl rfl (Nat.le_of_ble_eq_true rfl) (Nat.le_refl _) (Nat.le_refl _) ?_
              refine S_iinc1 hT dX9_faultOf_472 (nI_dec hl) rfl ?_
              refine S_iinc3 hT dX9_faultOf_475 (nI_inc _) rfl ?_
              refine J_goto (tgt := 483) hT dX9_faultOf_478 (by decide) ?_
              refine J_goto (tgt := 23) hT dX9_faultOf_483 (by decide) ?_
              refine J_L (L' := [_, _, _, _, none, none]) (zsub_keep (zsub_keep (zsub_keep (zsub_keep (zsub_drop (zsub_drop (zsub_refl _))))))) ?_
              exact K false (p + 1) _ _ fs _ (zpf_trans hz (zpf_trans (zpf_c hc2) (zpf_trans (zpf_u _ _ _ _ (by simp)) (zpf_c (PM_tok (PM_pop (show PM S2 (clsF 0 ks op).1 (11 :: os) by rw [← eos]; exact hP2)) (by omega) _).2)))) (PM_tok (PM_pop (show PM S2 (clsF 0 ks op).1 (11 :: os) by rw [← eos]; exact hP2)) (by omega) (30000 + 8)).1 (zFr_c (zFr_o (zFr_c hF.2.2 hc2) (by decide) _ _) (PM_tok (PM_pop (show PM S2 (clsF 0 ks op).1 (11 :: os) by rw [← eos]; exact hP2)) (by omega) _).2) hIs (by omega) (by omega) es
            · rw [if_neg o109] at es hIs
              by_cases o110 : f.2.1 = 110
              · rw [if_pos o110] at es hIs
                refine J_iload_n (i := 3) hT dX9_faultOf_23 rfl rfl ?_
                refine J_aload_n (i := 0) hT dX9_faultOf_24 rfl rfl ?_
                refine R_getI hT fX9_147 rfl dX9_faultOf_25 (rk hS) ?_
                refine J_topil (hL1) ?_
                refine J_icmp_ge (tgt := 486) hT dX9_faultOf_28 (by decide) (fun q => absurd q (Int32.not_le.mpr (nI_lt (a := p) (b := L) hp (by omega)))) (fun _ => ?_)
                refine J_aload_n (i := 0) hT dX9_faultOf_31 rfl rfl ?_
                refine R_getP hT fX9_7 rfl dX9_faultOf_32 (rk hS) (rp_text hS) ?_
                refine J_iload_n (i := 3) hT dX9_faultOf_35 rfl rfl ?_
                refine R_iald hT dX9_faultOf_36 (rk_text hS) (rl_text hS) (by first | exact ⟨rfl, by decide⟩ | exact zix_nI (by omega) (by decide) | assumption) ?_
                refine J_topil (hx p) ?_
                refine S_istore4 hT dX9_faultOf_37 rfl ?_
                refine J_iload_n (i := 2) hT dX9_faultOf_39 rfl rfl ?_
                refine J_if_eq (tgt := 62) hT dX9_faultOf_40 (by decide) (fun _ => ?_) (fun q => absurd (rfl) q)
                refine J_iload_n (i := 2) hT dX9_faultOf_62 rfl rfl ?_
                refine J_if_eq (tgt := 96) hT dX9_faultOf_63 (by decide) (fun _ => ?_) (fun q => absurd (rfl) q)
                refine J_iload_n (i := 2) hT dX9_faultOf_96 rfl rfl ?_
                refine J_if_eq (tgt := 118) hT dX9_faultOf_97 (by decide) (fun _ => ?_) (fun q => absurd (rfl) q)
                refine J_iload_n (i := 2) hT dX9_faultOf_118 rfl rfl ?_
                refine J_if_eq (tgt := 232) hT dX9_faultOf_119 (by decide) (fun _ => ?_) (fun q => absurd (rfl) q)
                refine J_iload_n (i := 2) hT dX9_faultOf_232 rfl rfl ?_
                refine J_if_eq (tgt := 238) hT dX9_faultOf_233 (by decide) (fun _ => ?_) (fun q => absurd (rfl) q)
                refine J_iload (i := 4) hT dX9_faultOf_238 rfl ?_
                refine R_callS1 hY dX9_faultOf_240 mfX9_deedOf mtX9_deedOf kX9_143 (c_X9_deedOf hZ) rfl (by decide) rfl rfl (Nat.le_of_ble_eq_true rfl) (Nat.le_refl _) (Nat.le_refl _) ?_
                refine J_if_le (tgt := 332) hT dX9_faultOf_243 (by decide) (fun _ => ?_) (fun q => absurd (hdl) q)
                refine J_iload (i := 4) hT dX9_faultOf_332 rfl ?_
                refine J_bipush (v := 44) hT dX9_faultOf_334 rfl ?_
                refine J_icmp_ne (tgt := 383) hT dX9_faultOf_336 (by decide) (fun _ => ?_) (fun q => absurd q (h44))
                refine J_iload (i := 4) hT dX9_faultOf_383 rfl ?_
                refine J_bipush (v := 41) hT dX9_faultOf_385 rfl ?_
                refine J_icmp_ne (tgt := 481) hT dX9_faultOf_387 (by decide) (fun q => absurd (h41) q) (fun _ => ?_)
                refine J_iload_n (i := 1) hT dX9_faultOf_390 rfl rfl ?_
                refine J_if_le (tgt := 481) hT dX9_faultOf_391 (by decide) (fun q => absurd q (Int32.not_le.mpr (nI_lt (a := 0) (b := fs.length) hl (by omega)))) (fun _ => ?_)
                refine J_aload_n (i := 0) hT dX9_faultOf_394 rfl rfl ?_
                refine R_getP hT fX9_26 rfl dX9_faultOf_395 (rk hS) (rp_args hS) ?_
                refine J_iload_n (i := 1) hT dX9_faultOf_398 rfl rfl ?_
                refine R_iald hT dX9_faultOf_399 (rk_args hS) (rl_args hS) (by first | exact ⟨rfl, by decide⟩ | exact zix_nI (by omega) (by decide) | assumption) ?_
                refine J_topil (a73) ?_
                refine J_iconst (v := 1) hT dX9_faultOf_400 rfl ?_
                refine J_icmp_ne (tgt := 481) hT dX9_faultOf_401 (by decide) (fun q => absurd ((show nI f.2.2 = 1 by rw [ha]; rfl)) q) (fun _ => ?_)
                refine J_aload_n (i := 0) hT dX9_faultOf_404 rfl rfl ?_
                refine J_iconst (v := 0) hT dX9_faultOf_405 rfl ?_
                refine J_callV (ci := 9) hY dX9_faultOf_406 mfX9_closes miX9_closes msX9_closes kX9_176 ⟨by decide, rfl⟩ (rk hS) (c_X9_closes hZ hS (rr := 0) (by omega) hP hng) rfl (by decide) rfl rfl (Nat.le_of_ble_eq_true rfl) (Nat.le_refl _) (Nat.le_refl _) (fun r1 μ1 hq1 => ?_)
                obtain ⟨rfl, S2, rfl, hc2, hP2⟩ := hq1
                refine J_aload_n (i := 0) hT dX9_faultOf_409 rfl rfl ?_
                refine J_dup hT dX9_faultOf_410 rfl ?_
                refine R_getI hT fX9_157 rfl dX9_faultOf_411 (rk hS) ?_
                refine J_topil ((show S2 67 5 = nI (os.length + 1) by rw [hP2.2.1, eos]; rfl)) ?_
                refine J_iconst (v := 1) hT dX9_faultOf_414 rfl ?_
                refine J_isub hT dX9_faultOf_415 ?_
                refine J_topil ((nI_pred os.length)) ?_
                refine R_putI hT fX9_157 rfl rfl dX9_faultOf_416 (rk hS) ?_
                refine J_aload_n (i := 0) hT dX9_faultOf_419 rfl rfl ?_
                refine R_getP hT fX9_23 rfl dX9_faultOf_420 (rk hS) (rp_opens hS) ?_
                refine J_iload_n (i := 1) hT dX9_faultOf_423 rfl rfl ?_
                refine R_iald hT dX9_faultOf_424 (rk_opens hS) (rl_opens hS) (by first | exact ⟨rfl, by decide⟩ | exact zix_nI (by omega) (by decide) | assumption) ?_
                refine J_topil (((zu_ne _ _ _ _ (by decide) _).trans ((hc2 _ _ (by decide) (fun q => absurd q.1 (by decide))).trans a72))) ?_
                refine J_bipush (v := 40) hT dX9_faultOf_425 rfl ?_
                refine J_icmp_eq (tgt := 472) hT dX9_faultOf_427 (by decide) (fun q => absurd q (fun q => o40 ((nI_eq (a := f.2.1) (b := 40) (by omega) (by decide)).mp q))) (fun _ => ?_)
                refine J_aload_n (i := 0) hT dX9_faultOf_430 rfl rfl ?_
                refine J_sipush (v := 30000) hT dX9_faultOf_431 rfl ?_
                refine J_aload_n (i := 0) hT dX9_faultOf_434 rfl rfl ?_
                refine R_getP hT fX9_23 rfl dX9_faultOf_435 (rk hS) (rp_opens hS) ?_
                refine J_iload_n (i := 1) hT dX9_faultOf_438 rfl rfl ?_
                refine R_iald hT dX9_faultOf_439 (rk_opens hS) (rl_opens hS) (by first | exact ⟨rfl, by decide⟩ | exact zix_nI (by omega) (by decide) | assumption) ?_
                refine J_topil (((zu_ne _ _ _ _ (by decide) _).trans ((hc2 _ _ (by decide) (fun q => absurd q.1 (by decide))).trans a72))) ?_
                refine J_bipush (v := 109) hT dX9_faultOf_440 rfl ?_
                refine J_icmp_ne (tgt := 450) hT dX9_faultOf_442 (by decide) (fun _ => ?_) (fun q => absurd q (fun q => o109 ((nI_eq (a := f.2.1) (b := 109) (by omega) (by decide)).mp q)))
                refine J_aload_n (i := 0) hT dX9_faultOf_450 rfl rfl ?_
                refine R_getP hT fX9_23 rfl dX9_faultOf_451 (rk hS) (rp_opens hS) ?_
                refine J_iload_n (i := 1) hT dX9_faultOf_454 rfl rfl ?_
                refine R_iald hT dX9_faultOf_455 (rk_opens hS) (rl_opens hS) (by first | exact ⟨rfl, by decide⟩ | exact zix_nI (by omega) (by decide) | assumption) ?_
                refine J_topil (((zu_ne _ _ _ _ (by decide) _).trans ((hc2 _ _ (by decide) (fun q => absurd q.1 (by decide))).trans a72))) ?_
                refine J_bipush (v := 110) hT dX9_faultOf_456 rfl ?_
                refine J_icmp_ne (tgt := 466) hT dX9_faultOf_458 (by decide) (fun q => absurd (congrArg nI o110) q) (fun _ => ?_)
                refine J_bipush (v := 9) hT dX9_faultOf_461 rfl ?_
                refine J_goto (tgt := 468) hT dX9_faultOf_463 (by decide) ?_
                refine J_iadd hT dX9_faultOf_468 ?_
                refine J_topil ((show (30000 : Int32) + 9 = nI (30000 + 9) from rfl)) ?_
                refine R_callV0 (ci := 9) hY dX9_faultOf_469 mfX9_makes miX9_makes msX9_makes kX9_163 ⟨by decide, rfl⟩ (rk hS) (c_X9_makes hZ hS (n := (clsF 0 ks op).1.length) (by omega) (show zu S2 67 5 (nI os.length) 67 3 = _ by simp [zu]; exact hP2.1)) rfl (by decide) rfl rfl (Nat.le_of_ble_eq_true rfl) (Nat.le_refl _) (Nat.le_refl _) ?_
                refine S_iinc1 hT dX9_faultOf_472 (nI_dec hl) rfl ?_
                refine S_iinc3 hT dX9_faultOf_475 (nI_inc _) rfl ?_
                refine J_goto (tgt := 483) hT dX9_faultOf_478 (by decide) ?_
                refine J_goto (tgt := 23) hT dX9_faultOf_483 (by decide) ?_
                refine J_L (L' := [_, _, _, _, none, none]) (zsub_keep (zsub_keep (zsub_keep (zsub_keep (zsub_drop (zsub_drop (zsub_refl _))))))) ?_
                exact K false (p + 1) _ _ fs _ (zpf_trans hz (zpf_trans (zpf_c hc2) (zpf_trans (zpf_u _ _ _ _ (by simp)) (zpf_c (PM_tok (PM_pop (show PM S2 (clsF 0 ks op).1 (11 :: os) by rw [← eos]; exact hP2)) (by omega) _).2)))) (PM_tok (PM_pop (show PM S2 (clsF 0 ks op).1 (11 :: os) by rw [← eos]; exact hP2)) (by omega) (30000 + 9)).1 (zFr_c (zFr_o (zFr_c hF.2.2 hc2) (by decide) _ _) (PM_tok (PM_pop (show PM S2 (clsF 0 ks op).1 (11 :: os) by rw [← eos]; exact hP2)) (by omega) _).2) hIs (by omega) (by omega) es
              · rw [if_neg o110] at es hIs
                refine J_iload_n (i := 3) hT dX9_faultOf_23 rfl rfl ?_
                refine J_aload_n (i := 0) hT dX9_faultOf_24 rfl rfl ?_
                refine R_getI hT fX9_147 rfl dX9_faultOf_25 (rk hS) ?_
                refine J_topil (hL1) ?_
                refine J_icmp_ge (tgt := 486) hT dX9_faultOf_28 (by decide) (fun q => absurd q (Int32.not_le.mpr (nI_lt (a := p) (b := L) hp (by omega)))) (fun _ => ?_)
                refine J_aload_n (i := 0) hT dX9_faultOf_31 rfl rfl ?_
                refine R_getP hT fX9_7 rfl dX9_faultOf_32 (rk hS) (rp_text hS) ?_
                refine J_iload_n (i := 3) hT dX9_faultOf_35 rfl rfl ?_
                refine R_iald hT dX9_faultOf_36 (rk_text hS) (rl_text hS) (by first | exact ⟨rfl, by decide⟩ | exact zix_nI (by omega) (by decide) | assumption) ?_
                refine J_topil (hx p) ?_
                refine S_istore4 hT dX9_faultOf_37 rfl ?_
                refine J_iload_n (i := 2) hT dX9_faultOf_39 rfl rfl ?_
                refine J_if_eq (tgt := 62) hT dX9_faultOf_40 (by decide) (fun _ => ?_) (fun q => absurd (rfl) q)
                refine J_iload_n (i := 2) hT dX9_faultOf_62 rfl rfl ?_
                refine J_if_eq (tgt := 96) hT dX9_faultOf_63 (by decide) (fun _ => ?_) (fun q => absurd (rfl) q)
                refine J_iload_n (i := 2) hT dX9_faultOf_96 rfl rfl ?_
                refine J_if_eq (tgt := 118) hT dX9_faultOf_97 (by decide) (fun _ => ?_) (fun q => absurd (rfl) q)
                refine J_iload_n (i := 2) hT dX9_faultOf_118 rfl rfl ?_
                refine J_if_eq (tgt := 232) hT dX9_faultOf_119 (by decide) (fun _ => ?_) (fun q => absurd (rfl) q)
                refine J_iload_n (i := 2) hT dX9_faultOf_232 rfl rfl ?_
                refine J_if_eq (tgt := 238) hT dX9_faultOf_233 (by decide) (fun _ => ?_) (fun q => absurd (rfl) q)
                refine J_iload (i := 4) hT dX9_faultOf_238 rfl ?_
                refine R_callS1 hY dX9_faultOf_240 mfX9_deedOf mtX9_deedOf kX9_143 (c_X9_deedOf hZ) rfl (by decide) rfl rfl (Nat.le_of_ble_eq_true rfl) (Nat.le_refl _) (Nat.le_refl _) ?_
                refine J_if_le (tgt := 332) hT dX9_faultOf_243 (by decide) (fun _ => ?_) (fun q => absurd (hdl) q)
                refine J_iload (i := 4) hT dX9_faultOf_332 rfl ?_
                refine J_bipush (v := 44) hT dX9_faultOf_334 rfl ?_
                refine J_icmp_ne (tgt := 383) hT dX9_faultOf_336 (by decide) (fun _ => ?_) (fun q => absurd q (h44))
                refine J_iload (i := 4) hT dX9_faultOf_383 rfl ?_
                refine J_bipush (v := 41) hT dX9_faultOf_385 rfl ?_
                refine J_icmp_ne (tgt := 481) hT dX9_faultOf_387 (by decide) (fun q => absurd (h41) q) (fun _ => ?_)
                refine J_iload_n (i := 1) hT dX9_faultOf_390 rfl rfl ?_
                refine J_if_le (tgt := 481) hT dX9_faultOf_391 (by decide) (fun q => absurd q (Int32.not_le.mpr (nI_lt (a := 0) (b := fs.length) hl (by omega)))) (fun _ => ?_)
                refine J_aload_n (i := 0) hT dX9_faultOf_394 rfl rfl ?_
                refine R_getP hT fX9_26 rfl dX9_faultOf_395 (rk hS) (rp_args hS) ?_
                refine J_iload_n (i := 1) hT dX9_faultOf_398 rfl rfl ?_
                refine R_iald hT dX9_faultOf_399 (rk_args hS) (rl_args hS) (by first | exact ⟨rfl, by decide⟩ | exact zix_nI (by omega) (by decide) | assumption) ?_
                refine J_topil (a73) ?_
                refine J_iconst (v := 1) hT dX9_faultOf_400 rfl ?_
                refine J_icmp_ne (tgt := 481) hT dX9_faultOf_401 (by decide) (fun q => absurd ((show nI f.2.2 = 1 by rw [ha]; rfl)) q) (fun _ => ?_)
                refine J_aload_n (i := 0) hT dX9_faultOf_404 rfl rfl ?_
                refine J_iconst (v := 0) hT dX9_faultOf_405 rfl ?_
                refine J_callV (ci := 9) hY dX9_faultOf_406 mfX9_closes miX9_closes msX9_closes kX9_176 ⟨by decide, rfl⟩ (rk hS) (c_X9_closes hZ hS (rr := 0) (by omega) hP hng) rfl (by decide) rfl rfl (Nat.le_of_ble_eq_true rfl) (Nat.le_refl _) (Nat.le_refl _) (fun r1 μ1 hq1 => ?_)
                obtain ⟨rfl, S2, rfl, hc2, hP2⟩ := hq1
                refine J_aload_n (i := 0) hT dX9_faultOf_409 rfl rfl ?_
                refine J_dup hT dX9_faultOf_410 rfl ?_
                refine R_getI hT fX9_157 rfl dX9_faultOf_411 (rk hS) ?_
                refine J_topil ((show S2 67 5 = nI (os.length + 1) by rw [hP2.2.1, eos]; rfl)) ?_
                refine J_iconst (v := 1) hT dX9_faultOf_414 rfl ?_
                refine J_isub hT dX9_faultOf_415 ?_
                refine J_topil ((nI_pred os.length)) ?_
                refine R_putI hT fX9_157 rfl rfl dX9_faultOf_416 (rk hS) ?_
                refine J_aload_n (i := 0) hT dX9_faultOf_419 rfl rfl ?_
                refine R_getP hT fX9_23 rfl dX9_faultOf_420 (rk hS) (rp_opens hS) ?_
                refine J_iload_n (i := 1) hT dX9_faultOf_423 rfl rfl ?_
                refine R_iald hT dX9_faultOf_424 (rk_opens hS) (rl_opens hS) (by first | exact ⟨rfl, by decide⟩ | exact zix_nI (by omega) (by decide) | assumption) ?_
                refine J_topil (((zu_ne _ _ _ _ (by decide) _).trans ((hc2 _ _ (by decide) (fun q => absurd q.1 (by decide))).trans a72))) ?_
                refine J_bipush (v := 40) hT dX9_faultOf_425 rfl ?_
                refine J_icmp_eq (tgt := 472) hT dX9_faultOf_427 (by decide) (fun q => absurd q (fun q => o40 ((nI_eq (a := f.2.1) (b := 40) (by omega) (by decide)).mp q))) (fun _ => ?_)
                refine J_aload_n (i := 0) hT dX9_faultOf_430 rfl rfl ?_
                refine J_sipush (v := 30000) hT dX9_faultOf_431 rfl ?_
                refine J_aload_n (i := 0) hT dX9_faultOf_434 rfl rfl ?_
                refine R_getP hT fX9_23 rfl dX9_faultOf_435 (rk hS) (rp_opens hS) ?_
                refine J_iload_n (i := 1) hT dX9_faultOf_438 rfl rfl ?_
                refine R_iald hT dX9_faultOf_439 (rk_opens hS) (rl_opens hS) (by first | exact ⟨rfl, by decide⟩ | exact zix_nI (by omega) (by decide) | assumption) ?_
                refine J_topil (((zu_ne _ _ _ _ (by decide) _).trans ((hc2 _ _ (by decide) (fun q => absurd q.1 (by decide))).trans a72))) ?_
                refine J_bipush (v := 109) hT dX9_faultOf_440 rfl ?_
                refine J_icmp_ne (tgt := 450) hT dX9_faultOf_442 (by decide) (fun _ => ?_) (fun q => absurd q (fun q => o109 ((nI_eq (a := f.2.1) (b := 109) (by omega) (by decide)).mp q)))
                refine J_aload_n (i := 0) hT dX9_faultOf_450 rfl rfl ?_
                refine R_getP hT fX9_23 rfl dX9_faultOf_451 (rk hS) (rp_opens hS) ?_
                refine J_iload_n (i := 1) hT dX9_faultOf_454 rfl rfl ?_
                refine R_iald hT dX9_faultOf_455 (rk_opens hS) (rl_opens hS) (by first | exact ⟨rfl, by decide⟩ | exact zix_nI (by omega) (by decide) | assumption) ?_
                refine J_topil (((zu_ne _ _ _ _ (by decide) _).trans ((hc2 _ _ (by decide) (fun q => absurd q.1 (by decide))).trans a72))) ?_
                refine J_bipush (v := 110) hT dX9_faultOf_456 rfl ?_
                refine J_icmp_ne (tgt := 466) hT dX9_faultOf_458 (by decide) (fun _ => ?_) (fun q => absurd q (fun q => o110 ((nI_eq (a := f.2.1) (b := 110) (by omega) (by decide)).mp q)))
                refine J_bipush (v := 10) hT dX9_faultOf_466 rfl ?_
                refine J_iadd hT dX9_faultOf_468 ?_
                refine J_topil ((show (30000 : Int32) + 10 = nI (30000 + 10) from rfl)) ?_
                refine R_callV0 (ci := 9) hY dX9_faultOf_469 mfX9_makes miX9_makes msX9_makes kX9_163 ⟨by decide, rfl⟩ (rk hS) (c_X9_makes hZ hS (n := (clsF 0 ks op).1.length) (by omega) (show zu S2 67 5 (nI os.length) 67 3 = _ by simp [zu]; exact hP2.1)) rfl (by decide) rfl rfl (Nat.le_of_ble_eq_true rfl) (Nat.le_refl _) (Nat.le_refl _) ?_
                refine S_iinc1 hT dX9_faultOf_472 (nI_dec hl) rfl ?_
                refine S_iinc3 hT dX9_faultOf_475 (nI_inc _) rfl ?_
                refine J_goto (tgt := 483) hT dX9_faultOf_478 (by decide) ?_
                refine J_goto (tgt := 23) hT dX9_faultOf_483 (by decide) ?_
                refine J_L (L' := [_, _, _, _, none, none]) (zsub_keep (zsub_keep (zsub_keep (zsub_keep (zsub_drop (zsub_drop (zsub_refl _))))))) ?_
                exact K false (p + 1) _ _ fs _ (zpf_trans hz (zpf_trans (zpf_c hc2) (zpf_trans (zpf_u _ _ _ _ (by simp)) (zpf_c (PM_tok (PM_pop (show PM S2 (clsF 0 ks op).1 (11 :: os) by rw [← eos]; exact hP2)) (by omega) _).2)))) (PM_tok (PM_pop (show PM S2 (clsF 0 ks op).1 (11 :: os) by rw [← eos]; exact hP2)) (by omega) (30000 + 10)).1 (zFr_c (zFr_o (zFr_c hF.2.2 hc2) (by decide) _ _) (PM_tok (PM_pop (show PM S2 (clsF 0 ks op).1 (11 :: os) by rw [← eos]; exact hP2)) (by omega) _).2) hIs (by omega) (by omega) es
        · have es := sf.trans (if_neg (fun q => ha q.2.2))
          refine J_iload_n (i := 3) hT dX9_faultOf_23 rfl rfl ?_
          refine J_aload_n (i := 0) hT dX9_faultOf_24 rfl rfl ?_
          refine R_getI hT fX9_147 rfl dX9_faultOf_25 (rk hS) ?_
          refine J_topil (hL1) ?_
          refine J_icmp_ge (tgt := 486) hT dX9_faultOf_28 (by decide) (fun q => absurd q (Int32.not_le.mpr (nI_lt (a := p) (b := L) hp (by omega)))) (fun _ => ?_)
          refine J_aload_n (i := 0) hT dX9_faultOf_31 rfl rfl ?_
          refine R_getP hT fX9_7 rfl dX9_faultOf_32 (rk hS) (rp_text hS) ?_
          refine J_iload_n (i := 3) hT dX9_faultOf_35 rfl rfl ?_
          refine R_iald hT dX9_faultOf_36 (rk_text hS) (rl_text hS) (by first | exact ⟨rfl, by decide⟩ | exact zix_nI (by omega) (by decide) | assumption) ?_
          refine J_topil (hx p) ?_
          refine S_istore4 hT dX9_faultOf_37 rfl ?_
          refine J_iload_n (i := 2) hT dX9_faultOf_39 rfl rfl ?_
          refine J_if_eq (tgt := 62) hT dX9_faultOf_40 (by decide) (fun _ => ?_) (fun q => absurd (rfl) q)
          refine J_iload_n (i := 2) hT dX9_faultOf_62 rfl rfl ?_
          refine J_if_eq (tgt := 96) hT dX9_faultOf_63 (by decide) (fun _ => ?_) (fun q => absurd (rfl) q)
          refine J_iload_n (i := 2) hT dX9_faultOf_96 rfl rfl ?_
          refine J_if_eq (tgt := 118) hT dX9_faultOf_97 (by decide) (fun _ => ?_) (fun q => absurd (rfl) q)
          refine J_iload_n (i := 2) hT dX9_faultOf_118 rfl rfl ?_
          refine J_if_eq (tgt := 232) hT dX9_faultOf_119 (by decide) (fun _ => ?_) (fun q => absurd (rfl) q)
          refine J_iload_n (i := 2) hT dX9_faultOf_232 rfl rfl ?_
          refine J_if_eq (tgt := 238) hT dX9_faultOf_233 (by decide) (fun _ => ?_) (fun q => absurd (rfl) q)
          refine J_iload (i := 4) hT dX9_faultOf_238 rfl ?_
          refine R_callS1 hY dX9_faultOf_240 mfX9_deedOf mtX9_deedOf kX9_143 (c_X9_deedOf hZ) rfl (by decide) rfl rfl (Nat.le_of_ble_eq_true rfl) (Nat.le_refl _) (Nat.le_refl _) ?_
          refine J_if_le (tgt := 332) hT dX9_faultOf_243 (by decide) (fun _ => ?_) (fun q => absurd (hdl) q)
          refine J_iload (i := 4) hT dX9_faultOf_332 rfl ?_
          refine J_bipush (v := 44) hT dX9_faultOf_334 rfl ?_
          refine J_icmp_ne (tgt := 383) hT dX9_faultOf_336 (by decide) (fun _ => ?_) (fun q => absurd q (h44))
          refine J_iload (i := 4) hT dX9_faultOf_383 rfl ?_
          refine J_bipush (v := 41) hT dX9_faultOf_385 rfl ?_
          refine J_icmp_ne (tgt := 481) hT dX9_faultOf_387 (by decide) (fun q => absurd (h41) q) (fun _ => ?_)
          refine J_iload_n (i := 1) hT dX9_faultOf_390 rfl rfl ?_
          refine J_if_le (tgt := 481) hT dX9_faultOf_391 (by decide) (fun q => absurd q (Int32.not_le.mpr (nI_lt (a := 0) (b := fs.length) hl (by omega)))) (fun _ => ?_)
          refine J_aload_n (i := 0) hT dX9_faultOf_394 rfl rfl ?_
          refine R_getP hT fX9_26 rfl dX9_faultOf_395 (rk hS) (rp_args hS) ?_
          refine J_iload_n (i := 1) hT dX9_faultOf_398 rfl rfl ?_
          refine R_iald hT dX9_faultOf_399 (rk_args hS) (rl_args hS) (by first | exact ⟨rfl, by decide⟩ | exact zix_nI (by omega) (by decide) | assumption) ?_
          refine J_topil (a73) ?_
          refine J_iconst (v := 1) hT dX9_faultOf_400 rfl ?_
          refine J_icmp_ne (tgt := 481) hT dX9_faultOf_401 (by decide) (fun _ => ?_) (fun q => absurd q (fun q => ha ((nI_eq (a := f.2.2) (b := 1) (by omega) (by decide)).mp q)))
          refine J_iload_n (i := 3) hT dX9_faultOf_481 rfl rfl ?_
          exact J_iret hT dX9_faultOf_482 rfl rfl (K2 _ es _ hz) (Nat.le_refl _) (Nat.le_refl _)
    · have es := sf.trans (if_neg (fun q => h41 q.1))
      refine J_iload_n (i := 3) hT dX9_faultOf_23 rfl rfl ?_
      refine J_aload_n (i := 0) hT dX9_faultOf_24 rfl rfl ?_
      refine R_getI hT fX9_147 rfl dX9_faultOf_25 (rk hS) ?_
      refine J_topil (hL1) ?_
      refine J_icmp_ge (tgt := 486) hT dX9_faultOf_28 (by decide) (fun q => absurd q (Int32.not_le.mpr (nI_lt (a := p) (b := L) hp (by omega)))) (fun _ => ?_)
      refine J_aload_n (i := 0) hT dX9_faultOf_31 rfl rfl ?_
      refine R_getP hT fX9_7 rfl dX9_faultOf_32 (rk hS) (rp_text hS) ?_
      refine J_iload_n (i := 3) hT dX9_faultOf_35 rfl rfl ?_
      refine R_iald hT dX9_faultOf_36 (rk_text hS) (rl_text hS) (by first | exact ⟨rfl, by decide⟩ | exact zix_nI (by omega) (by decide) | assumption) ?_
      refine J_topil (hx p) ?_
      refine S_istore4 hT dX9_faultOf_37 rfl ?_
      refine J_iload_n (i := 2) hT dX9_faultOf_39 rfl rfl ?_
      refine J_if_eq (tgt := 62) hT dX9_faultOf_40 (by decide) (fun _ => ?_) (fun q => absurd (rfl) q)
      refine J_iload_n (i := 2) hT dX9_faultOf_62 rfl rfl ?_
      refine J_if_eq (tgt := 96) hT dX9_faultOf_63 (by decide) (fun _ => ?_) (fun q => absurd (rfl) q)
      refine J_iload_n (i := 2) hT dX9_faultOf_96 rfl rfl ?_
      refine J_if_eq (tgt := 118) hT dX9_faultOf_97 (by decide) (fun _ => ?_) (fun q => absurd (rfl) q)
      refine J_iload_n (i := 2) hT dX9_faultOf_118 rfl rfl ?_
      refine J_if_eq (tgt := 232) hT dX9_faultOf_119 (by decide) (fun _ => ?_) (fun q => absurd (rfl) q)
      refine J_iload_n (i := 2) hT dX9_faultOf_232 rfl rfl ?_
      refine J_if_eq (tgt := 238) hT dX9_faultOf_233 (by decide) (fun _ => ?_) (fun q => absurd (rfl) q)
      refine J_iload (i := 4) hT dX9_faultOf_238 rfl ?_
      refine R_callS1 hY dX9_faultOf_240 mfX9_deedOf mtX9_deedOf kX9_143 (c_X9_deedOf hZ) rfl (by decide) rfl rfl (Nat.le_of_ble_eq_true rfl) (Nat.le_refl _) (Nat.le_refl _) ?_
      refine J_if_le (tgt := 332) hT dX9_faultOf_243 (by decide) (fun _ => ?_) (fun q => absurd (hdl) q)
      refine J_iload (i := 4) hT dX9_faultOf_332 rfl ?_
      refine J_bipush (v := 44) hT dX9_faultOf_334 rfl ?_
      refine J_icmp_ne (tgt := 383) hT dX9_faultOf_336 (by decide) (fun _ => ?_) (fun q => absurd q (h44))
      refine J_iload (i := 4) hT dX9_faultOf_383 rfl ?_
      refine J_bipush (v := 41) hT dX9_faultOf_385 rfl ?_
      refine J_icmp_ne (tgt := 481) hT dX9_faultOf_387 (by decide) (fun _ => ?_) (fun q => absurd q (h41))
      refine J_iload_n (i := 3) hT dX9_faultOf_481 rfl rfl ?_
      exact J_iret hT dX9_faultOf_482 rfl rfl (K2 _ es _ hz) (Nat.le_refl _) (Nat.le_refl _)
