
theorem deedN_nI {x : Int32} (h : 0 < deedN x) : ∃ d, 2 ≤ d ∧ d ≤ 7 ∧ deedN x = nI d := by
  unfold deedN at *
  by_cases h1 : x = 43
  · exact ⟨2, by omega, by omega, by rw [if_pos h1]; rfl⟩
  rw [if_neg h1] at *
  by_cases h2 : x = 45
  · exact ⟨3, by omega, by omega, by rw [if_pos h2]; rfl⟩
  rw [if_neg h2] at *
  by_cases h3 : x = 42
  · exact ⟨4, by omega, by omega, by rw [if_pos h3]; rfl⟩
  rw [if_neg h3] at *
  by_cases h4 : x = 60
  · exact ⟨5, by omega, by omega, by rw [if_pos h4]; rfl⟩
  rw [if_neg h4] at *
  by_cases h5 : x = 62
  · exact ⟨6, by omega, by omega, by rw [if_pos h5]; rfl⟩
  rw [if_neg h5] at *
  by_cases h6 : x = 61
  · exact ⟨7, by omega, by omega, by rw [if_pos h6]; rfl⟩
  rw [if_neg h6] at *
  exact absurd h (by decide)
theorem stF_false (σ : Nat → Nat → Int32) (L p : Nat) (ks op : List Nat) (f : Bool × Nat × Nat) (fs : List (Bool × Nat × Nat)) : stF σ L false p ks op (f :: fs) = (if 0 < deedN (σ 68 p) then
        (if 5 ≤ deedN (σ 68 p) ∧ f.1 = true then .inl p
         else .inr (true, p + 1, (clsF (rkN (deedN (σ 68 p)).toNatClampNeg) ks op).1, (deedN (σ 68 p)).toNatClampNeg :: (clsF (rkN (deedN (σ 68 p)).toNatClampNeg) ks op).2, (f.1 || decide (5 ≤ deedN (σ 68 p)), f.2) :: fs))
      else if σ 68 p = 44 ∧ fs ≠ [] ∧ 1 < f.2.2 then .inr (true, p + 1, (clsF 0 ks op).1, (clsF 0 ks op).2, (false, f.2.1, f.2.2 - 1) :: fs)
      else if σ 68 p = 41 ∧ fs ≠ [] ∧ f.2.2 = 1 then
        .inr (false, p + 1, (if f.2.1 ≠ 40 then (30000 + (if f.2.1 = 109 then 8 else if f.2.1 = 110 then 9 else 10)) :: (clsF 0 ks op).1 else (clsF 0 ks op).1), (clsF 0 ks op).2.tail, fs)
      else .inl p) := by
  unfold stF
  simp only [Bool.false_eq_true, false_and, if_false]
theorem zFr_has {σ : Nat → Nat → Int32} {f : Bool × Nat × Nat} {fs : List (Bool × Nat × Nat)} (h : zFr σ (f :: fs)) (b : Bool) : zFr (zu σ 71 fs.length (zbi b)) ((b, f.2) :: fs) := by
  refine ⟨zu_eq _ _ _ _, fun q => ⟨(zu_ne _ _ _ _ (by decide) _).trans (h.2.1 q).1, (zu_ne _ _ _ _ (by decide) _).trans (h.2.1 q).2⟩, zFr_mv h.2.2 (fun b' hb j hj => ?_)⟩
  have hne : ¬ j = fs.length := by omega
  rcases hb with rfl | rfl | rfl <;> simp [zu, hne]
theorem zFr_c {σ σ' : Nat → Nat → Int32} {s : List (Bool × Nat × Nat)} (h : zFr σ s) (e : zpc σ σ') : zFr σ' s :=
  zFr_mv h (fun b hb j _ => e b j (by rcases hb with rfl | rfl | rfl <;> decide) (fun q => absurd q.1 (by rcases hb with rfl | rfl | rfl <;> decide)))
theorem zFr_o {σ : Nat → Nat → Int32} {s : List (Bool × Nat × Nat)} (h : zFr σ s) {a : Nat} (ha : a ≠ 71 ∧ a ≠ 72 ∧ a ≠ 73) (i : Nat) (v : Int32) : zFr (zu σ a i v) s :=
  zFr_mv h (fun b hb j _ => zu_ne _ _ _ _ (by rcases hb with rfl | rfl | rfl; exact ha.1.symm; exact ha.2.1.symm; exact ha.2.2.symm) j)

set_option maxRecDepth 100000 in
set_option maxHeartbeats 4000000 in
theorem fo_false {l : Launch} {Z : zZ} (hZ : zSt l Z) {μ : zMem} {σ σ1 : Nat → Nat → Int32} {π : Nat → Nat → Option Nat} {g : Nat → Nat → Int64} (hS : zRef μ π) {τ : _} (hY : zCy l Z τ mX9_faultOf 2 0 0) {P : Option Value → zMem → Prop} {L p : Nat} {ks op : List Nat} {fr : List (Bool × Nat × Nat)}
    (hL : σ 67 1 = nI L) (hL30 : L ≤ 30) (hp : p < L) (hz : zpf σ σ1) (hP : PM σ1 ks op) (hF : zFr σ1 fr) (hI : IV p ks op fr)
    (K : ∀ w' p' ks' op' fr' σ', zpf σ σ' → PM σ' ks' op' → zFr σ' fr' → IV p' ks' op' fr' → p < p' → p' ≤ L → stF σ L false p ks op fr = .inr (w', p', ks', op', fr') → zJ τ (zFn τ P 0 0) 23 [some (.ref 67), some (.int (nI (fr'.length - 1))), some (.int (zbi w')), some (.int (nI p')), none, none] [] (zA4 μ σ' π g) 0 0)
    (KN : ¬ 0 < deedN (σ 68 p) → zJ τ (zFn τ P 0 0) 23 [some (.ref 67), some (.int (nI (fr.length - 1))), some (.int (zbi false)), some (.int (nI p)), none, none] [] (zA4 μ σ1 π g) 0 0)
    (K2 : ∀ q, stF σ L false p ks op fr = .inl q → ∀ σ', zpf σ σ' → P (some (.int (nI q))) (zA4 μ σ' π g)) : zJ τ (zFn τ P 0 0) 23 [some (.ref 67), some (.int (nI (fr.length - 1))), some (.int (zbi false)), some (.int (nI p)), none, none] [] (zA4 μ σ1 π g) 0 0 := by
  have hT := hY.1
  have hx : ∀ j, σ1 68 j = σ 68 j := fun j => hz _ _ (by decide) (by decide) (by decide) (by decide) (by decide) (fun q => absurd q.1 (by decide))
  have hL1 : σ1 67 1 = nI L := (hz _ _ (by decide) (by decide) (by decide) (by decide) (by decide) (by decide)).trans hL
  obtain ⟨ik, io⟩ := IV_ks hI
  have hfl := hI.2.2.1
  have hf1 : 1 ≤ fr.length := by have := hI.2.1; omega
  cases fr with
  | nil => exact absurd hf1 (by decide)
  | cons f fs =>
  simp only [List.length_cons, Nat.add_sub_cancel] at *
  have h71 := hF.1
  by_cases hdd : 0 < deedN (σ 68 p)
  · obtain ⟨d, d2, d7, ed⟩ := deedN_nI hdd
    have ed2 : (deedN (σ 68 p)).toNatClampNeg = d := by rw [ed]; exact nI_clamp (by omega)
    have ed5 : decide (5 ≤ deedN (σ 68 p)) = decide (5 ≤ d) := by
      rw [ed]
      by_cases q : 5 ≤ d
      · rw [decide_eq_true q, decide_eq_true (show (5 : Int32) ≤ nI d from nI_le (a := 5) q (by omega))]
      · rw [decide_eq_false q, decide_eq_false (show ¬ ((5 : Int32) ≤ nI d) from Int32.not_le.mpr (nI_lt (a := d) (b := 5) (by omega) (by omega)))]
    have sf := stF_false σ L p ks op f fs
    rw [if_pos hdd, ed2, ed5] at sf
    have mid : ∀ c5 : Option Value, ¬ (5 ≤ d ∧ f.1 = true) → zJ τ (zFn τ P 0 0) 303 [some (.ref 67), some (.int (nI fs.length)), some (.int (zbi false)), some (.int (nI p)), some (.int (σ 68 p)), c5] [] (zA4 μ (zu σ1 71 fs.length (zbi (f.1 || decide (5 ≤ d)))) π g) 0 0 := by
      intro c5 hnc
      have es := sf.trans (if_neg (fun q => hnc ⟨by
        have := q.1
        rw [ed] at this
        apply Classical.byContradiction
        intro z
        exact absurd this (Int32.not_le.mpr (nI_lt (a := d) (b := 5) (by omega) (by omega))), q.2⟩))
      have hP1 : PM (zu σ1 71 fs.length (zbi (f.1 || decide (5 ≤ d)))) ks op := PM_mv hP (fun b hb j => zu_ne _ _ _ _ (by rcases hb with rfl | rfl | rfl <;> decide) j)
      have hF1 := zFr_has hF (f.1 || decide (5 ≤ d))
      have hz1 : zpf σ (zu σ1 71 fs.length (zbi (f.1 || decide (5 ≤ d)))) := zpf_trans hz (zpf_u _ _ _ _ (by simp))
      generalize zu σ1 71 fs.length (zbi (f.1 || decide (5 ≤ d))) = S at *
      have hlen := (clsF_ok (rkN d) op ks).2.2.2
      have hng : ks.length + ng op ≤ 30 := by have := hI.1; omega
      refine J_aload_n (i := 0) hT dX9_faultOf_303 rfl rfl ?_
      refine J_iload (i := 4) hT dX9_faultOf_304 rfl ?_
      refine R_callS1 hY dX9_faultOf_306 mfX9_deedOf mtX9_deedOf kX9_143 (c_X9_deedOf hZ) rfl (by decide) rfl rfl (Nat.le_of_ble_eq_true rfl) (Nat.le_refl _) (Nat.le_refl _) ?_
      refine J_topil (ed) ?_
      refine R_callS1 hY dX9_faultOf_309 mfX9_rank mtX9_rank kX9_160 (c_X9_rank hZ) rfl (by decide) rfl rfl (Nat.le_of_ble_eq_true rfl) (Nat.le_refl _) (Nat.le_refl _) ?_
      refine J_topil ((rkN_eq d (by omega))) ?_
      refine J_callV (ci := 9) hY dX9_faultOf_312 mfX9_closes miX9_closes msX9_closes kX9_176 ⟨by decide, rfl⟩ (rk hS) (c_X9_closes hZ hS (rr := rkN d) (rkN_le d) hP1 hng) rfl (by decide) rfl rfl (Nat.le_of_ble_eq_true rfl) (Nat.le_refl _) (Nat.le_refl _) (fun r1 μ1 hq1 => ?_)
      obtain ⟨rfl, S2, rfl, hc2, hP2⟩ := hq1
      refine J_aload_n (i := 0) hT dX9_faultOf_315 rfl rfl ?_
      refine J_iload (i := 4) hT dX9_faultOf_316 rfl ?_
      refine R_callS1 hY dX9_faultOf_318 mfX9_deedOf mtX9_deedOf kX9_143 (c_X9_deedOf hZ) rfl (by decide) rfl rfl (Nat.le_of_ble_eq_true rfl) (Nat.le_refl _) (Nat.le_refl _) ?_
      refine J_topil (ed) ?_
      refine R_callV0 (ci := 9) hY dX9_faultOf_321 mfX9_opensOne miX9_opensOne msX9_opensOne kX9_173 ⟨by decide, rfl⟩ (rk hS) (c_X9_opensOne hZ hS (n := (clsF (rkN d) ks op).2.length) (by omega) hP2.2.1) rfl (by decide) rfl rfl (Nat.le_of_ble_eq_true rfl) (Nat.le_refl _) (Nat.le_refl _) ?_
      refine J_iconst (v := 1) hT dX9_faultOf_324 rfl ?_
      refine S_istore2 hT dX9_faultOf_325 rfl rfl ?_
      refine S_iinc3 hT dX9_faultOf_326 (nI_inc _) rfl ?_
      refine J_goto (tgt := 483) hT dX9_faultOf_329 (by decide) ?_
      refine J_goto (tgt := 23) hT dX9_faultOf_483 (by decide) ?_
      refine J_L (L' := [_, _, _, _, none, none]) (zsub_keep (zsub_keep (zsub_keep (zsub_keep (zsub_drop (zsub_drop (zsub_refl _))))))) ?_
      exact K true (p + 1) _ _ ((f.1 || decide (5 ≤ d), f.2) :: fs) _ (zpf_trans hz1 (zpf_trans (zpf_c hc2) (zpf_trans (zpf_u _ _ _ _ (by simp)) (zpf_u _ _ _ _ (by simp))))) (PM_open (d := d) hP2 (by omega) (by omega)) (zFr_o (zFr_o (zFr_c hF1 hc2) (by decide) _ _) (by decide) _ _) (IV_deed hI (by omega) _) (by omega) (by omega) es
    by_cases h5 : 5 ≤ d
    · have g5 : (5 : Int32) ≤ nI d := nI_le (a := 5) h5 (by omega)
      cases h1 : f.1 with
      | true =>
        have es := sf.trans (if_pos ⟨by rw [ed]; exact g5, h1⟩)
        rw [h1] at h71
        refine J_iload_n (i := 3) hT dX9_faultOf_23 rfl rfl ?_
        refine J_aload_n (i := 0) hT dX9_faultOf_24 rfl rfl ?_
        refine R_getI hT fX9_147 rfl dX9_faultOf_25 (rk hS) ?_
        refine J_topil (hL1) ?_
        refine J_icmp_ge (tgt := 486) hT dX9_faultOf_28 (by decide) (fun q => absurd q (Int32.not_le.mpr (nI_lt (a := p) (b := L) hp (by omega)))) (fun _ => ?_)
        refine J_aload_n (i := 0) hT dX9_faultOf_31 rfl rfl ?_
        refine R_getP hT fX9_7 rfl dX9_faultOf_32 (rk hS) (rp_text hS) ?_
        refine J_iload_n (i := 3) hT dX9_faultOf_35 rfl rfl ?_
        refine R_iald hT dX9_faultOf_36 (rk_text hS) (rl_text hS) (by first | exact ⟨rfl, by decide⟩ | exact zix_nI (by omega) (by decide) | assumption) ?_
        refine J_topil (hx p) ?_
        refine S_istore4 hT dX9_faultOf_37 rfl ?_
        refine J_iload_n (i := 2) hT dX9_faultOf_39 rfl rfl ?_
        refine J_if_eq (tgt := 62) hT dX9_faultOf_40 (by decide) (fun _ => ?_) (fun q => absurd (rfl) q)
        refine J_iload_n (i := 2) hT dX9_faultOf_62 rfl rfl ?_
        refine J_if_eq (tgt := 96) hT dX9_faultOf_63 (by decide) (fun _ => ?_) (fun q => absurd (rfl) q)
        refine J_iload_n (i := 2) hT dX9_faultOf_96 rfl rfl ?_
        refine J_if_eq (tgt := 118) hT dX9_faultOf_97 (by decide) (fun _ => ?_) (fun q => absurd (rfl) q)
        refine J_iload_n (i := 2) hT dX9_faultOf_118 rfl rfl ?_
        refine J_if_eq (tgt := 232) hT dX9_faultOf_119 (by decide) (fun _ => ?_) (fun q => absurd (rfl) q)
        refine J_iload_n (i := 2) hT dX9_faultOf_232 rfl rfl ?_
        refine J_if_eq (tgt := 238) hT dX9_faultOf_233 (by decide) (fun _ => ?_) (fun q => absurd (rfl) q)
        refine J_iload (i := 4) hT dX9_faultOf_238 rfl ?_
        refine R_callS1 hY dX9_faultOf_240 mfX9_deedOf mtX9_deedOf kX9_143 (c_X9_deedOf hZ) rfl (by decide) rfl rfl (Nat.le_of_ble_eq_true rfl) (Nat.le_refl _) (Nat.le_refl _) ?_
        refine J_topil (ed) ?_
        refine J_if_le (tgt := 332) hT dX9_faultOf_243 (by decide) (fun q => absurd q (Int32.not_le.mpr (nI_lt (a := 0) (b := d) (by omega) (by omega)))) (fun _ => ?_)
        refine J_iload (i := 4) hT dX9_faultOf_246 rfl ?_
        refine R_callS1 hY dX9_faultOf_248 mfX9_deedOf mtX9_deedOf kX9_143 (c_X9_deedOf hZ) rfl (by decide) rfl rfl (Nat.le_of_ble_eq_true rfl) (Nat.le_refl _) (Nat.le_refl _) ?_
        refine J_topil (ed) ?_
        refine J_iconst (v := 5) hT dX9_faultOf_251 rfl ?_
        refine J_icmp_lt (tgt := 259) hT dX9_faultOf_252 (by decide) (fun q => absurd q (Int32.not_lt.mpr g5)) (fun _ => ?_)
        refine J_iconst (v := 1) hT dX9_faultOf_255 rfl ?_
        refine J_goto (tgt := 260) hT dX9_faultOf_256 (by decide) ?_
        refine S_istore5 hT dX9_faultOf_260 rfl ?_
        refine J_iload (i := 5) hT dX9_faultOf_262 rfl ?_
        refine J_if_eq (tgt := 278) hT dX9_faultOf_264 (by decide) (fun q => absurd q (by decide)) (fun _ => ?_)
        refine J_aload_n (i := 0) hT dX9_faultOf_267 rfl rfl ?_
        refine R_getP hT fX9_19 rfl dX9_faultOf_268 (rk hS) (rp_hasCompared hS) ?_
        refine J_iload_n (i := 1) hT dX9_faultOf_271 rfl rfl ?_
        refine R_zald hT dX9_faultOf_272 (rk_hasCompared hS) (rl_hasCompared hS) (by first | exact ⟨rfl, by decide⟩ | exact zix_nI (by omega) (by decide) | assumption) ?_
        refine J_topil (h71) ?_
        refine J_if_eq (tgt := 278) hT dX9_faultOf_273 (by decide) (fun q => absurd q (by decide)) (fun _ => ?_)
        refine J_iload_n (i := 3) hT dX9_faultOf_276 rfl rfl ?_
        exact J_iret hT dX9_faultOf_277 rfl rfl (K2 _ es _ hz) (Nat.le_refl _) (Nat.le_refl _)
      | false =>
        rw [h1] at h71
        have mid := mid (some (.int 1)) (fun q => by rw [h1] at q; exact absurd q.2 (by decide))
        rw [h1, decide_eq_true h5] at mid
        refine J_iload_n (i := 3) hT dX9_faultOf_23 rfl rfl ?_
        refine J_aload_n (i := 0) hT dX9_faultOf_24 rfl rfl ?_
        refine R_getI hT fX9_147 rfl dX9_faultOf_25 (rk hS) ?_
        refine J_topil (hL1) ?_
        refine J_icmp_ge (tgt := 486) hT dX9_faultOf_28 (by decide) (fun q => absurd q (Int32.not_le.mpr (nI_lt (a := p) (b := L) hp (by omega)))) (fun _ => ?_)
        refine J_aload_n (i := 0) hT dX9_faultOf_31 rfl rfl ?_
        refine R_getP hT fX9_7 rfl dX9_faultOf_32 (rk hS) (rp_text hS) ?_
        refine J_iload_n (i := 3) hT dX9_faultOf_35 rfl rfl ?_
        refine R_iald hT dX9_faultOf_36 (rk_text hS) (rl_text hS) (by first | exact ⟨rfl, by decide⟩ | exact zix_nI (by omega) (by decide) | assumption) ?_
        refine J_topil (hx p) ?_
        refine S_istore4 hT dX9_faultOf_37 rfl ?_
        refine J_iload_n (i := 2) hT dX9_faultOf_39 rfl rfl ?_
        refine J_if_eq (tgt := 62) hT dX9_faultOf_40 (by decide) (fun _ => ?_) (fun q => absurd (rfl) q)
        refine J_iload_n (i := 2) hT dX9_faultOf_62 rfl rfl ?_
        refine J_if_eq (tgt := 96) hT dX9_faultOf_63 (by decide) (fun _ => ?_) (fun q => absurd (rfl) q)
        refine J_iload_n (i := 2) hT dX9_faultOf_96 rfl rfl ?_
        refine J_if_eq (tgt := 118) hT dX9_faultOf_97 (by decide) (fun _ => ?_) (fun q => absurd (rfl) q)
        refine J_iload_n (i := 2) hT dX9_faultOf_118 rfl rfl ?_
        refine J_if_eq (tgt := 232) hT dX9_faultOf_119 (by decide) (fun _ => ?_) (fun q => absurd (rfl) q)
        refine J_iload_n (i := 2) hT dX9_faultOf_232 rfl rfl ?_
        refine J_if_eq (tgt := 238) hT dX9_faultOf_233 (by decide) (fun _ => ?_) (fun q => absurd (rfl) q)
        refine J_iload (i := 4) hT dX9_faultOf_238 rfl ?_
        refine R_callS1 hY dX9_faultOf_240 mfX9_deedOf mtX9_deedOf kX9_143 (c_X9_deedOf hZ) rfl (by decide) rfl rfl (Nat.le_of_ble_eq_true rfl) (Nat.le_refl _) (Nat.le_refl _) ?_
        refine J_topil (ed) ?_
        refine J_if_le (tgt := 332) hT dX9_faultOf_243 (by decide) (fun q => absurd q (Int32.not_le.mpr (nI_lt (a := 0) (b := d) (by omega) (by omega)))) (fun _ => ?_)
        refine J_iload (i := 4) hT dX9_faultOf_246 rfl ?_
        refine R_callS1 hY dX9_faultOf_248 mfX9_deedOf mtX9_deedOf kX9_143 (c_X9_deedOf hZ) rfl (by decide) rfl rfl (Nat.le_of_ble_eq_true rfl) (Nat.le_refl _) (Nat.le_refl _) ?_
        refine J_topil (ed) ?_
        refine J_iconst (v := 5) hT dX9_faultOf_251 rfl ?_
        refine J_icmp_lt (tgt := 259) hT dX9_faultOf_252 (by decide) (fun q => absurd q (Int32.not_lt.mpr g5)) (fun _ => ?_)
        refine J_iconst (v := 1) hT dX9_faultOf_255 rfl ?_
        refine J_goto (tgt := 260) hT dX9_faultOf_256 (by decide) ?_
        refine S_istore5 hT dX9_faultOf_260 rfl ?_
        refine J_iload (i := 5) hT dX9_faultOf_262 rfl ?_
        refine J_if_eq (tgt := 278) hT dX9_faultOf_264 (by decide) (fun q => absurd q (by decide)) (fun _ => ?_)
        refine J_aload_n (i := 0) hT dX9_faultOf_267 rfl rfl ?_
        refine R_getP hT fX9_19 rfl dX9_faultOf_268 (rk hS) (rp_hasCompared hS) ?_
        refine J_iload_n (i := 1) hT dX9_faultOf_271 rfl rfl ?_
        refine R_zald hT dX9_faultOf_272 (rk_hasCompared hS) (rl_hasCompared hS) (by first | exact ⟨rfl, by decide⟩ | exact zix_nI (by omega) (by decide) | assumption) ?_
        refine J_topil (h71) ?_
        refine J_if_eq (tgt := 278) hT dX9_faultOf_273 (by decide) (fun _ => ?_) (fun q => absurd (rfl) q)
        refine J_aload_n (i := 0) hT dX9_faultOf_278 rfl rfl ?_
        refine R_getP hT fX9_19 rfl dX9_faultOf_279 (rk hS) (rp_hasCompared hS) ?_
        refine J_iload_n (i := 1) hT dX9_faultOf_282 rfl rfl ?_
        refine J_aload_n (i := 0) hT dX9_faultOf_283 rfl rfl ?_
        refine R_getP hT fX9_19 rfl dX9_faultOf_284 (rk hS) (rp_hasCompared hS) ?_
        refine J_iload_n (i := 1) hT dX9_faultOf_287 rfl rfl ?_
        refine R_zald hT dX9_faultOf_288 (rk_hasCompared hS) (rl_hasCompared hS) (by first | exact ⟨rfl, by decide⟩ | exact zix_nI (by omega) (by decide) | assumption) ?_
        refine J_topil (h71) ?_
        refine J_if_ne (tgt := 297) hT dX9_faultOf_289 (by decide) (fun q => absurd (rfl) q) (fun _ => ?_)
        refine J_iload (i := 5) hT dX9_faultOf_292 rfl ?_
        refine J_if_eq (tgt := 301) hT dX9_faultOf_294 (by decide) (fun q => absurd q (by decide)) (fun _ => ?_)
        refine J_iconst (v := 1) hT dX9_faultOf_297 rfl ?_
        refine J_goto (tgt := 302) hT dX9_faultOf_298 (by decide) ?_
        refine R_zast hT dX9_faultOf_302 (rk_hasCompared hS) (rl_hasCompared hS) (by first | exact ⟨rfl, by decide⟩ | exact zix_nI (by omega) (by decide) | assumption) (by decide) ?_
        exact mid
    · have g5 : nI d < 5 := nI_lt (a := d) (b := 5) (by omega) (by omega)
      have mid := mid (some (.int 0)) (fun q => h5 q.1)
      cases h1 : f.1 with
      | true =>
        rw [h1] at h71
        rw [h1, decide_eq_false h5] at mid
        refine J_iload_n (i := 3) hT dX9_faultOf_23 rfl rfl ?_
        refine J_aload_n (i := 0) hT dX9_faultOf_24 rfl rfl ?_
        refine R_getI hT fX9_147 rfl dX9_faultOf_25 (rk hS) ?_
        refine J_topil (hL1) ?_
        refine J_icmp_ge (tgt := 486) hT dX9_faultOf_28 (by decide) (fun q => absurd q (Int32.not_le.mpr (nI_lt (a := p) (b := L) hp (by omega)))) (fun _ => ?_)
        refine J_aload_n (i := 0) hT dX9_faultOf_31 rfl rfl ?_
        refine R_getP hT fX9_7 rfl dX9_faultOf_32 (rk hS) (rp_text hS) ?_
        refine J_iload_n (i := 3) hT dX9_faultOf_35 rfl rfl ?_
        refine R_iald hT dX9_faultOf_36 (rk_text hS) (rl_text hS) (by first | exact ⟨rfl, by decide⟩ | exact zix_nI (by omega) (by decide) | assumption) ?_
        refine J_topil (hx p) ?_
        refine S_istore4 hT dX9_faultOf_37 rfl ?_
        refine J_iload_n (i := 2) hT dX9_faultOf_39 rfl rfl ?_
        refine J_if_eq (tgt := 62) hT dX9_faultOf_40 (by decide) (fun _ => ?_) (fun q => absurd (rfl) q)
        refine J_iload_n (i := 2) hT dX9_faultOf_62 rfl rfl ?_
        refine J_if_eq (tgt := 96) hT dX9_faultOf_63 (by decide) (fun _ => ?_) (fun q => absurd (rfl) q)
        refine J_iload_n (i := 2) hT dX9_faultOf_96 rfl rfl ?_
        refine J_if_eq (tgt := 118) hT dX9_faultOf_97 (by decide) (fun _ => ?_) (fun q => absurd (rfl) q)
        refine J_iload_n (i := 2) hT dX9_faultOf_118 rfl rfl ?_
        refine J_if_eq (tgt := 232) hT dX9_faultOf_119 (by decide) (fun _ => ?_) (fun q => absurd (rfl) q)
        refine J_iload_n (i := 2) hT dX9_faultOf_232 rfl rfl ?_
        refine J_if_eq (tgt := 238) hT dX9_faultOf_233 (by decide) (fun _ => ?_) (fun q => absurd (rfl) q)
        refine J_iload (i := 4) hT dX9_faultOf_238 rfl ?_
        refine R_callS1 hY dX9_faultOf_240 mfX9_deedOf mtX9_deedOf kX9_143 (c_X9_deedOf hZ) rfl (by decide) rfl rfl (Nat.le_of_ble_eq_true rfl) (Nat.le_refl _) (Nat.le_refl _) ?_
        refine J_topil (ed) ?_
        refine J_if_le (tgt := 332) hT dX9_faultOf_243 (by decide) (fun q => absurd q (Int32.not_le.mpr (nI_lt (a := 0) (b := d) (by omega) (by omega)))) (fun _ => ?_)
        refine J_iload (i := 4) hT dX9_faultOf_246 rfl ?_
        refine R_callS1 hY dX9_faultOf_248 mfX9_deedOf mtX9_deedOf kX9_143 (c_X9_deedOf hZ) rfl (by decide) rfl rfl (Nat.le_of_ble_eq_true rfl) (Nat.le_refl _) (Nat.le_refl _) ?_
        refine J_topil (ed) ?_
        refine J_iconst (v := 5) hT dX9_faultOf_251 rfl ?_
        refine J_icmp_lt (tgt := 259) hT dX9_faultOf_252 (by decide) (fun _ => ?_) (fun q => absurd (g5) q)
        refine J_iconst (v := 0) hT dX9_faultOf_259 rfl ?_
        refine S_istore5 hT dX9_faultOf_260 rfl ?_
        refine J_iload (i := 5) hT dX9_faultOf_262 rfl ?_
        refine J_if_eq (tgt := 278) hT dX9_faultOf_264 (by decide) (fun _ => ?_) (fun q => absurd (rfl) q)
        refine J_aload_n (i := 0) hT dX9_faultOf_278 rfl rfl ?_
        refine R_getP hT fX9_19 rfl dX9_faultOf_279 (rk hS) (rp_hasCompared hS) ?_
        refine J_iload_n (i := 1) hT dX9_faultOf_282 rfl rfl ?_
        refine J_aload_n (i := 0) hT dX9_faultOf_283 rfl rfl ?_
        refine R_getP hT fX9_19 rfl dX9_faultOf_284 (rk hS) (rp_hasCompared hS) ?_
        refine J_iload_n (i := 1) hT dX9_faultOf_287 rfl rfl ?_
        refine R_zald hT dX9_faultOf_288 (rk_hasCompared hS) (rl_hasCompared hS) (by first | exact ⟨rfl, by decide⟩ | exact zix_nI (by omega) (by decide) | assumption) ?_
        refine J_topil (h71) ?_
        refine J_if_ne (tgt := 297) hT dX9_faultOf_289 (by decide) (fun _ => ?_) (fun q => absurd q (by decide))
        refine J_iconst (v := 1) hT dX9_faultOf_297 rfl ?_
        refine J_goto (tgt := 302) hT dX9_faultOf_298 (by decide) ?_
        refine R_zast hT dX9_faultOf_302 (rk_hasCompared hS) (rl_hasCompared hS) (by first | exact ⟨rfl, by decide⟩ | exact zix_nI (by omega) (by decide) | assumption) (by decide) ?_
        exact mid
      | false =>
        rw [h1] at h71
        rw [h1, decide_eq_false h5] at mid
        refine J_iload_n (i := 3) hT dX9_faultOf_23 rfl rfl ?_
        refine J_aload_n (i := 0) hT dX9_faultOf_24 rfl rfl ?_
        refine R_getI hT fX9_147 rfl dX9_faultOf_25 (rk hS) ?_
        refine J_topil (hL1) ?_
        refine J_icmp_ge (tgt := 486) hT dX9_faultOf_28 (by decide) (fun q => absurd q (Int32.not_le.mpr (nI_lt (a := p) (b := L) hp (by omega)))) (fun _ => ?_)
        refine J_aload_n (i := 0) hT dX9_faultOf_31 rfl rfl ?_
        refine R_getP hT fX9_7 rfl dX9_faultOf_32 (rk hS) (rp_text hS) ?_
        refine J_iload_n (i := 3) hT dX9_faultOf_35 rfl rfl ?_
        refine R_iald hT dX9_faultOf_36 (rk_text hS) (rl_text hS) (by first | exact ⟨rfl, by decide⟩ | exact zix_nI (by omega) (by decide) | assumption) ?_
        refine J_topil (hx p) ?_
        refine S_istore4 hT dX9_faultOf_37 rfl ?_
        refine J_iload_n (i := 2) hT dX9_faultOf_39 rfl rfl ?_
        refine J_if_eq (tgt := 62) hT dX9_faultOf_40 (by decide) (fun _ => ?_) (fun q => absurd (rfl) q)
        refine J_iload_n (i := 2) hT dX9_faultOf_62 rfl rfl ?_
        refine J_if_eq (tgt := 96) hT dX9_faultOf_63 (by decide) (fun _ => ?_) (fun q => absurd (rfl) q)
        refine J_iload_n (i := 2) hT dX9_faultOf_96 rfl rfl ?_
        refine J_if_eq (tgt := 118) hT dX9_faultOf_97 (by decide) (fun _ => ?_) (fun q => absurd (rfl) q)
        refine J_iload_n (i := 2) hT dX9_faultOf_118 rfl rfl ?_
        refine J_if_eq (tgt := 232) hT dX9_faultOf_119 (by decide) (fun _ => ?_) (fun q => absurd (rfl) q)
        refine J_iload_n (i := 2) hT dX9_faultOf_232 rfl rfl ?_
        refine J_if_eq (tgt := 238) hT dX9_faultOf_233 (by decide) (fun _ => ?_) (fun q => absurd (rfl) q)
        refine J_iload (i := 4) hT dX9_faultOf_238 rfl ?_
        refine R_callS1 hY dX9_faultOf_240 mfX9_deedOf mtX9_deedOf kX9_143 (c_X9_deedOf hZ) rfl (by decide) rfl rfl (Nat.le_of_ble_eq_true rfl) (Nat.le_refl _) (Nat.le_refl _) ?_
        refine J_topil (ed) ?_
        refine J_if_le (tgt := 332) hT dX9_faultOf_243 (by decide) (fun q => absurd q (Int32.not_le.mpr (nI_lt (a := 0) (b := d) (by omega) (by omega)))) (fun _ => ?_)
        refine J_iload (i := 4) hT dX9_faultOf_246 rfl ?_
        refine R_callS1 hY dX9_faultOf_248 mfX9_deedOf mtX9_deedOf kX9_143 (c_X9_deedOf hZ) rfl (by decide) rfl rfl (Nat.le_of_ble_eq_true rfl) (Nat.le_refl _) (Nat.le_refl _) ?_
        refine J_topil (ed) ?_
        refine J_iconst (v := 5) hT dX9_faultOf_251 rfl ?_
        refine J_icmp_lt (tgt := 259) hT dX9_faultOf_252 (by decide) (fun _ => ?_) (fun q => absurd (g5) q)
        refine J_iconst (v := 0) hT dX9_faultOf_259 rfl ?_
        refine S_istore5 hT dX9_faultOf_260 rfl ?_
        refine J_iload (i := 5) hT dX9_faultOf_262 rfl ?_
        refine J_if_eq (tgt := 278) hT dX9_faultOf_264 (by decide) (fun _ => ?_) (fun q => absurd (rfl) q)
        refine J_aload_n (i := 0) hT dX9_faultOf_278 rfl rfl ?_
        refine R_getP hT fX9_19 rfl dX9_faultOf_279 (rk hS) (rp_hasCompared hS) ?_
        refine J_iload_n (i := 1) hT dX9_faultOf_282 rfl rfl ?_
        refine J_aload_n (i := 0) hT dX9_faultOf_283 rfl rfl ?_
        refine R_getP hT fX9_19 rfl dX9_faultOf_284 (rk hS) (rp_hasCompared hS) ?_
        refine J_iload_n (i := 1) hT dX9_faultOf_287 rfl rfl ?_
        refine R_zald hT dX9_faultOf_288 (rk_hasCompared hS) (rl_hasCompared hS) (by first | exact ⟨rfl, by decide⟩ | exact zix_nI (by omega) (by decide) | assumption) ?_
        refine J_topil (h71) ?_
        refine J_if_ne (tgt := 297) hT dX9_faultOf_289 (by decide) (fun q => absurd (rfl) q) (fun _ => ?_)
        refine J_iload (i := 5) hT dX9_faultOf_292 rfl ?_
        refine J_if_eq (tgt := 301) hT dX9_faultOf_294 (by decide) (fun _ => ?_) (fun q => absurd (rfl) q)
        refine J_iconst (v := 0) hT dX9_faultOf_301 rfl ?_
        refine R_zast hT dX9_faultOf_302 (rk_hasCompared hS) (rl_hasCompared hS) (by first | exact ⟨rfl, by decide⟩ | exact zix_nI (by omega) (by decide) | assumption) (by decide) ?_
        exact mid
  · exact KN hdd
