/-! ===== fits ===== -/
set_option maxRecDepth 100000 in
set_option maxHeartbeats 4000000 in
theorem c_L_fits {l : Launch} {Z : zZ} (hZ : zSt l Z) (hO : zOps Z) {μ : zMem} {σ : zS2} {π : zP2} {g : zG2} {n L : Nat} {S : zS2} (h : PW n L μ σ π S) {hv : Int32} (hh : ∀ c, c < 12 → bt hv c = decide (S 80 c ≠ 0)) : zCt l Z mL_fits 8 0 0 [.ref 0, .int hv] (zA4 μ σ π g) (fun v μ' => v = some (.int 1) ∧ ∃ σ', μ' = zA4 μ σ' π g ∧ PW n L μ σ' π S ∧ ∀ b j, b ≠ 12 → σ' b j = σ b j) := by
  refine zCt_of hZ mpL_fits (Nat.le_of_ble_eq_true rfl) (L := [some (.ref 0), some (.int hv), none, none, none]) rfl (fun τ hY => ?_)
  have hT := hY.1
  have loop2 : ∀ m i, i + m = 5 → ∀ (σx : zS2) (x4 : Option Value), PW n L μ σx π S → (∀ b j, b ≠ 12 → σx b j = σ b j) → zJ τ (zFn τ (fun v μ' => v = some (.int 1) ∧ ∃ σ', μ' = zA4 μ σ' π g ∧ PW n L μ σ' π S ∧ ∀ b j, b ≠ 12 → σ' b j = σ b j) 0 0) 113 [some (.ref 0), some (.int hv), some (.int 1), some (.int (nI i)), x4] [] (zA4 μ σx π g) 0 0 := by
    intro m
    induction m with
    | zero =>
      intro i him σx x4 hP hx
      have : i = 5 := by omega
      subst this
      refine J_iload_n (i := 3) hT dL_fits_113 rfl rfl ?_
      refine J_iconst (v := 5) hT dL_fits_114 rfl ?_
      refine J_icmp_ge (tgt := 215) hT dL_fits_115 (by decide) (fun _ => ?_) (fun q => absurd (nI_le (a := 5) (b := 5) (by decide) (by decide)) q)
      refine J_iload_n (i := 2) hT dL_fits_215 rfl rfl ?_
      exact J_iret hT dL_fits_216 rfl rfl (⟨rfl, _, rfl, hP, hx⟩) (Nat.le_refl _) (Nat.le_refl _)
    | succ m ih =>
      intro i him σx x4 hP hx
      have hi : i < 5 := by omega
      obtain ⟨f1, ⟨f2, f3⟩, f4, a, a1, a2, a3⟩ := hP.cv.svc hi
      have g0 : ¬ S 92 i < 0 := by rcases f1 with q | q | q | q <;> rw [q] <;> decide
      have g3 : ¬ S 92 i > 3 := by rcases f1 with q | q | q | q <;> rw [q] <;> decide
      have g4 : ¬ S 95 i < 0 := Int32.not_lt.mpr f2
      have g5 : ¬ S 95 i > 1000 := Int32.not_lt.mpr f3
      have g6 : ¬ S 97 i < 0 := by rw [a2]; exact nI_pos (by omega)
      by_cases q2 : S 92 i = 2
      · have g7 : ¬ S 97 i ≤ 0 := by rw [a2]; exact nI_nle (a3 q2) (by omega)
        refine J_iload_n (i := 3) hT dL_fits_113 rfl rfl ?_
        refine J_iconst (v := 5) hT dL_fits_114 rfl ?_
        refine J_icmp_ge (tgt := 215) hT dL_fits_115 (by decide) (fun q => absurd q (Int32.not_le.mpr (nI_lt (a := i) (b := 5) (by omega) (by decide)))) (fun _ => ?_)
        refine J_iload_n (i := 2) hT dL_fits_118 rfl rfl ?_
        refine J_if_eq (tgt := 215) hT dL_fits_119 (by decide) (fun q => absurd q ((by decide))) (fun _ => ?_)
        refine J_aload_n (i := 0) hT dL_fits_122 rfl rfl ?_
        refine J_iload_n (i := 3) hT dL_fits_123 rfl rfl ?_
        refine R_callW1 hY dL_fits_124 mfL_state mtL_state mwL_125 (q_state hZ hP hi) rfl (by decide) rfl rfl (Nat.le_of_ble_eq_true rfl) (Nat.le_refl _) (Nat.le_refl _) ?_
        refine S_istore4 hT dL_fits_127 rfl ?_
        refine J_iload (i := 4) hT dL_fits_129 rfl ?_
        refine J_if_lt (tgt := 207) hT dL_fits_131 (by decide) (fun q => absurd q (g0)) (fun _ => ?_)
        refine J_iload (i := 4) hT dL_fits_134 rfl ?_
        refine J_iconst (v := 3) hT dL_fits_136 rfl ?_
        refine J_icmp_gt (tgt := 207) hT dL_fits_137 (by decide) (fun q => absurd q (g3)) (fun _ => ?_)
        refine J_aload_n (i := 0) hT dL_fits_140 rfl rfl ?_
        refine J_iload_n (i := 3) hT dL_fits_141 rfl rfl ?_
        refine R_callW1 hY dL_fits_142 mfL_load mtL_load mwL_127 (q_load hZ hP hi) rfl (by decide) rfl rfl (Nat.le_of_ble_eq_true rfl) (Nat.le_refl _) (Nat.le_refl _) ?_
        refine J_if_lt (tgt := 207) hT dL_fits_145 (by decide) (fun q => absurd q (g4)) (fun _ => ?_)
        refine J_aload_n (i := 0) hT dL_fits_148 rfl rfl ?_
        refine J_iload_n (i := 3) hT dL_fits_149 rfl rfl ?_
        refine R_callW1 hY dL_fits_150 mfL_load mtL_load mwL_127 (q_load hZ hP hi) rfl (by decide) rfl rfl (Nat.le_of_ble_eq_true rfl) (Nat.le_refl _) (Nat.le_refl _) ?_
        refine J_sipush (v := 1000) hT dL_fits_153 rfl ?_
        refine J_icmp_gt (tgt := 207) hT dL_fits_156 (by decide) (fun q => absurd q (g5)) (fun _ => ?_)
        refine J_iload (i := 4) hT dL_fits_159 rfl ?_
        refine J_iconst (v := 2) hT dL_fits_161 rfl ?_
        refine J_icmp_eq (tgt := 181) hT dL_fits_162 (by decide) (fun _ => ?_) (fun q => absurd (q2) q)
        refine J_aload_n (i := 0) hT dL_fits_181 rfl rfl ?_
        refine J_iload_n (i := 3) hT dL_fits_182 rfl rfl ?_
        refine R_callW1 hY dL_fits_183 mfL_starts mtL_starts mwL_131 (q_starts hZ hP hi) rfl (by decide) rfl rfl (Nat.le_of_ble_eq_true rfl) (Nat.le_refl _) (Nat.le_refl _) ?_
        refine J_if_lt (tgt := 207) hT dL_fits_186 (by decide) (fun q => absurd q (g6)) (fun _ => ?_)
        refine J_iload (i := 4) hT dL_fits_189 rfl ?_
        refine J_iconst (v := 2) hT dL_fits_191 rfl ?_
        refine J_icmp_ne (tgt := 203) hT dL_fits_192 (by decide) (fun q => absurd (q2) q) (fun _ => ?_)
        refine J_aload_n (i := 0) hT dL_fits_195 rfl rfl ?_
        refine J_iload_n (i := 3) hT dL_fits_196 rfl rfl ?_
        refine R_callW1 hY dL_fits_197 mfL_starts mtL_starts mwL_131 (q_starts hZ hP hi) rfl (by decide) rfl rfl (Nat.le_of_ble_eq_true rfl) (Nat.le_refl _) (Nat.le_refl _) ?_
        refine J_if_le (tgt := 207) hT dL_fits_200 (by decide) (fun q => absurd q (g7)) (fun _ => ?_)
        refine J_iconst (v := 1) hT dL_fits_203 rfl ?_
        refine J_goto (tgt := 208) hT dL_fits_204 (by decide) ?_
        refine S_istore2 hT dL_fits_208 rfl rfl ?_
        refine S_iinc3 hT dL_fits_209 (nI_inc _) rfl ?_
        refine J_goto (tgt := 113) hT dL_fits_212 (by decide) ?_
        exact ih (i + 1) (by omega) σx _ hP hx
      · obtain ⟨g8, g9⟩ := f4.resolve_left q2
        refine J_iload_n (i := 3) hT dL_fits_113 rfl rfl ?_
        refine J_iconst (v := 5) hT dL_fits_114 rfl ?_
        refine J_icmp_ge (tgt := 215) hT dL_fits_115 (by decide) (fun q => absurd q (Int32.not_le.mpr (nI_lt (a := i) (b := 5) (by omega) (by decide)))) (fun _ => ?_)
        refine J_iload_n (i := 2) hT dL_fits_118 rfl rfl ?_
        refine J_if_eq (tgt := 215) hT dL_fits_119 (by decide) (fun q => absurd q ((by decide))) (fun _ => ?_)
        refine J_aload_n (i := 0) hT dL_fits_122 rfl rfl ?_
        refine J_iload_n (i := 3) hT dL_fits_123 rfl rfl ?_
        refine R_callW1 hY dL_fits_124 mfL_state mtL_state mwL_125 (q_state hZ hP hi) rfl (by decide) rfl rfl (Nat.le_of_ble_eq_true rfl) (Nat.le_refl _) (Nat.le_refl _) ?_
        refine S_istore4 hT dL_fits_127 rfl ?_
        refine J_iload (i := 4) hT dL_fits_129 rfl ?_
        refine J_if_lt (tgt := 207) hT dL_fits_131 (by decide) (fun q => absurd q (g0)) (fun _ => ?_)
        refine J_iload (i := 4) hT dL_fits_134 rfl ?_
        refine J_iconst (v := 3) hT dL_fits_136 rfl ?_
        refine J_icmp_gt (tgt := 207) hT dL_fits_137 (by decide) (fun q => absurd q (g3)) (fun _ => ?_)
        refine J_aload_n (i := 0) hT dL_fits_140 rfl rfl ?_
        refine J_iload_n (i := 3) hT dL_fits_141 rfl rfl ?_
        refine R_callW1 hY dL_fits_142 mfL_load mtL_load mwL_127 (q_load hZ hP hi) rfl (by decide) rfl rfl (Nat.le_of_ble_eq_true rfl) (Nat.le_refl _) (Nat.le_refl _) ?_
        refine J_if_lt (tgt := 207) hT dL_fits_145 (by decide) (fun q => absurd q (g4)) (fun _ => ?_)
        refine J_aload_n (i := 0) hT dL_fits_148 rfl rfl ?_
        refine J_iload_n (i := 3) hT dL_fits_149 rfl rfl ?_
        refine R_callW1 hY dL_fits_150 mfL_load mtL_load mwL_127 (q_load hZ hP hi) rfl (by decide) rfl rfl (Nat.le_of_ble_eq_true rfl) (Nat.le_refl _) (Nat.le_refl _) ?_
        refine J_sipush (v := 1000) hT dL_fits_153 rfl ?_
        refine J_icmp_gt (tgt := 207) hT dL_fits_156 (by decide) (fun q => absurd q (g5)) (fun _ => ?_)
        refine J_iload (i := 4) hT dL_fits_159 rfl ?_
        refine J_iconst (v := 2) hT dL_fits_161 rfl ?_
        refine J_icmp_eq (tgt := 181) hT dL_fits_162 (by decide) (fun q => absurd q (q2)) (fun _ => ?_)
        refine J_aload_n (i := 0) hT dL_fits_165 rfl rfl ?_
        refine J_iload_n (i := 3) hT dL_fits_166 rfl rfl ?_
        refine R_callW1 hY dL_fits_167 mfL_load mtL_load mwL_127 (q_load hZ hP hi) rfl (by decide) rfl rfl (Nat.le_of_ble_eq_true rfl) (Nat.le_refl _) (Nat.le_refl _) ?_
        refine J_if_ne (tgt := 207) hT dL_fits_170 (by decide) (fun q => absurd (g8) q) (fun _ => ?_)
        refine J_aload_n (i := 0) hT dL_fits_173 rfl rfl ?_
        refine J_iload_n (i := 3) hT dL_fits_174 rfl rfl ?_
        refine R_callW1 hY dL_fits_175 mfL_told mtL_told mwL_129 (q_told hZ hP hi) rfl (by decide) rfl rfl (Nat.le_of_ble_eq_true rfl) (Nat.le_refl _) (Nat.le_refl _) ?_
        refine J_if_ne (tgt := 207) hT dL_fits_178 (by decide) (fun q => absurd (g9) q) (fun _ => ?_)
        refine J_aload_n (i := 0) hT dL_fits_181 rfl rfl ?_
        refine J_iload_n (i := 3) hT dL_fits_182 rfl rfl ?_
        refine R_callW1 hY dL_fits_183 mfL_starts mtL_starts mwL_131 (q_starts hZ hP hi) rfl (by decide) rfl rfl (Nat.le_of_ble_eq_true rfl) (Nat.le_refl _) (Nat.le_refl _) ?_
        refine J_if_lt (tgt := 207) hT dL_fits_186 (by decide) (fun q => absurd q (g6)) (fun _ => ?_)
        refine J_iload (i := 4) hT dL_fits_189 rfl ?_
        refine J_iconst (v := 2) hT dL_fits_191 rfl ?_
        refine J_icmp_ne (tgt := 203) hT dL_fits_192 (by decide) (fun _ => ?_) (fun q => absurd q (q2))
        refine J_iconst (v := 1) hT dL_fits_203 rfl ?_
        refine J_goto (tgt := 208) hT dL_fits_204 (by decide) ?_
        refine S_istore2 hT dL_fits_208 rfl rfl ?_
        refine S_iinc3 hT dL_fits_209 (nI_inc _) rfl ?_
        refine J_goto (tgt := 113) hT dL_fits_212 (by decide) ?_
        exact ih (i + 1) (by omega) σx _ hP hx
  have loop1 : ∀ m i, i + m = 12 → ∀ (σx : zS2) (x4 : Option Value), PW n L μ σx π S → (∀ b j, b ≠ 12 → σx b j = σ b j) → zJ τ (zFn τ (fun v μ' => v = some (.int 1) ∧ ∃ σ', μ' = zA4 μ σ' π g ∧ PW n L μ σ' π S ∧ ∀ b j, b ≠ 12 → σ' b j = σ b j) 0 0) 4 [some (.ref 0), some (.int hv), some (.int 1), some (.int (nI i)), x4] [] (zA4 μ σx π g) 0 0 := by
    intro m
    induction m with
    | zero =>
      intro i him σx x4 hP hx
      have : i = 12 := by omega
      subst this
      refine J_iload_n (i := 3) hT dL_fits_4 rfl rfl ?_
      refine J_bipush (v := 12) hT dL_fits_5 rfl ?_
      refine J_icmp_ge (tgt := 111) hT dL_fits_7 (by decide) (fun _ => ?_) (fun q => absurd (nI_le (a := 12) (b := 12) (by decide) (by decide)) q)
      refine J_iconst (v := 0) hT dL_fits_111 rfl ?_
      refine S_istore3 hT dL_fits_112 rfl rfl ?_
      exact loop2 5 0 rfl σx x4 hP hx
    | succ m ih =>
      intro i him σx x4 hP hx
      have hi : i < 12 := by omega
      obtain ⟨f1, f2, ⟨d, d1, d2⟩, f3, f4⟩ := hP.cv.cell hi
      have g1 : ¬ S 79 i < 0 := by rw [d2]; exact nI_pos (by omega)
      have g2 : ¬ (12 : Int32) ≤ S 79 i := by rw [d2]; exact nI_ge (a := d) (b := 12) (by omega) (by decide)
      have g3 : ¬ S 88 i < -1000000 := Int32.not_lt.mpr f3
      have g4 : ¬ S 88 i > 1000000 := Int32.not_lt.mpr f4
      have tl : ∀ (σx : zS2) (b4 : Int32), PW n L μ σx π S → (∀ b j, b ≠ 12 → σx b j = σ b j) → zJ τ (zFn τ (fun v μ' => v = some (.int 1) ∧ ∃ σ', μ' = zA4 μ σ' π g ∧ PW n L μ σ' π S ∧ ∀ b j, b ≠ 12 → σ' b j = σ b j) 0 0) 61 [some (.ref 0), some (.int hv), some (.int 1), some (.int (nI i)), some (.int b4)] [] (zA4 μ σx π g) 0 0 := by
        intro σx b4 hP hx
        refine J_aload_n (i := 0) hT dL_fits_61 rfl rfl ?_
        refine J_iload_n (i := 3) hT dL_fits_62 rfl rfl ?_
        refine R_callW1 hY dL_fits_63 mfL_depth mtL_depth mwL_121 (q_depth hZ hP hi) rfl (by decide) rfl rfl (Nat.le_of_ble_eq_true rfl) (Nat.le_refl _) (Nat.le_refl _) ?_
        refine J_if_lt (tgt := 103) hT dL_fits_66 (by decide) (fun q => absurd q (g1)) (fun _ => ?_)
        refine J_aload_n (i := 0) hT dL_fits_69 rfl rfl ?_
        refine J_iload_n (i := 3) hT dL_fits_70 rfl rfl ?_
        refine R_callW1 hY dL_fits_71 mfL_depth mtL_depth mwL_121 (q_depth hZ hP hi) rfl (by decide) rfl rfl (Nat.le_of_ble_eq_true rfl) (Nat.le_refl _) (Nat.le_refl _) ?_
        refine J_bipush (v := 12) hT dL_fits_74 rfl ?_
        refine J_icmp_ge (tgt := 103) hT dL_fits_76 (by decide) (fun q => absurd q (g2)) (fun _ => ?_)
        refine J_aload_n (i := 0) hT dL_fits_79 rfl rfl ?_
        refine J_iload_n (i := 3) hT dL_fits_80 rfl rfl ?_
        refine R_callW1 hY dL_fits_81 mfL_value mtL_value mwL_114 (q_value hZ hP hi) rfl (by decide) rfl rfl (Nat.le_of_ble_eq_true rfl) (Nat.le_refl _) (Nat.le_refl _) ?_
        refine J_ldc hT dL_fits_84 lc_123 ?_
        refine J_icmp_lt (tgt := 103) hT dL_fits_86 (by decide) (fun q => absurd q (g3)) (fun _ => ?_)
        refine J_aload_n (i := 0) hT dL_fits_89 rfl rfl ?_
        refine J_iload_n (i := 3) hT dL_fits_90 rfl rfl ?_
        refine R_callW1 hY dL_fits_91 mfL_value mtL_value mwL_114 (q_value hZ hP hi) rfl (by decide) rfl rfl (Nat.le_of_ble_eq_true rfl) (Nat.le_refl _) (Nat.le_refl _) ?_
        refine J_ldc hT dL_fits_94 lc_124 ?_
        refine J_icmp_gt (tgt := 103) hT dL_fits_96 (by decide) (fun q => absurd q (g4)) (fun _ => ?_)
        refine J_iconst (v := 1) hT dL_fits_99 rfl ?_
        refine J_goto (tgt := 104) hT dL_fits_100 (by decide) ?_
        refine S_istore2 hT dL_fits_104 rfl rfl ?_
        refine S_iinc3 hT dL_fits_105 (nI_inc _) rfl ?_
        refine J_goto (tgt := 4) hT dL_fits_108 (by decide) ?_
        exact ih (i + 1) (by omega) σx _ hP hx
      cases hb : bt hv i with
      | true =>
        have h80 : S 80 i ≠ 0 := of_decide_eq_true ((hh i hi).symm.trans hb)
        have e1 : ((hv >>> (nI i &&& 31)) &&& 1) = 1 := by rw [shr_bit hv (by omega), hb]; rfl
        refine J_iload_n (i := 3) hT dL_fits_4 rfl rfl ?_
        refine J_bipush (v := 12) hT dL_fits_5 rfl ?_
        refine J_icmp_ge (tgt := 111) hT dL_fits_7 (by decide) (fun q => absurd q (Int32.not_le.mpr (nI_lt (a := i) (b := 12) (by omega) (by decide)))) (fun _ => ?_)
        refine J_iload_n (i := 2) hT dL_fits_10 rfl rfl ?_
        refine J_if_eq (tgt := 111) hT dL_fits_11 (by decide) (fun q => absurd q ((by decide))) (fun _ => ?_)
        refine J_iload_n (i := 1) hT dL_fits_14 rfl rfl ?_
        refine J_iload_n (i := 3) hT dL_fits_15 rfl rfl ?_
        refine J_ishr hT dL_fits_16 ?_
        refine J_iconst (v := 1) hT dL_fits_17 rfl ?_
        refine J_iand hT dL_fits_18 ?_
        refine J_topil (e1) ?_
        refine J_iconst (v := 1) hT dL_fits_19 rfl ?_
        refine J_icmp_ne (tgt := 27) hT dL_fits_20 (by decide) (fun q => absurd (rfl) q) (fun _ => ?_)
        refine J_iconst (v := 1) hT dL_fits_23 rfl ?_
        refine J_goto (tgt := 28) hT dL_fits_24 (by decide) ?_
        refine S_istore4 hT dL_fits_28 rfl ?_
        refine J_iload (i := 4) hT dL_fits_30 rfl ?_
        refine J_if_ne (tgt := 48) hT dL_fits_32 (by decide) (fun _ => ?_) (fun q => absurd q ((by decide)))
        refine J_iload (i := 4) hT dL_fits_48 rfl ?_
        refine J_if_eq (tgt := 61) hT dL_fits_50 (by decide) (fun q => absurd q ((by decide))) (fun _ => ?_)
        refine J_aload_n (i := 0) hT dL_fits_53 rfl rfl ?_
        refine J_iload_n (i := 3) hT dL_fits_54 rfl rfl ?_
        refine R_callW1 hY dL_fits_55 mfL_stale mtL_stale mwL_118 (q_stale hZ hP hi) rfl (by decide) rfl rfl (Nat.le_of_ble_eq_true rfl) (Nat.le_refl _) (Nat.le_refl _) ?_
        refine J_if_ne (tgt := 103) hT dL_fits_58 (by decide) (fun q => absurd ((by rw [f2 h80]; rfl)) q) (fun _ => ?_)
        exact tl σx 1 hP hx
      | false =>
        have h80 : S 80 i = 0 := Classical.not_not.mp (of_decide_eq_false ((hh i hi).symm.trans hb))
        have e1 : ((hv >>> (nI i &&& 31)) &&& 1) = 0 := by rw [shr_bit hv (by omega), hb]; rfl
        refine J_iload_n (i := 3) hT dL_fits_4 rfl rfl ?_
        refine J_bipush (v := 12) hT dL_fits_5 rfl ?_
        refine J_icmp_ge (tgt := 111) hT dL_fits_7 (by decide) (fun q => absurd q (Int32.not_le.mpr (nI_lt (a := i) (b := 12) (by omega) (by decide)))) (fun _ => ?_)
        refine J_iload_n (i := 2) hT dL_fits_10 rfl rfl ?_
        refine J_if_eq (tgt := 111) hT dL_fits_11 (by decide) (fun q => absurd q ((by decide))) (fun _ => ?_)
        refine J_iload_n (i := 1) hT dL_fits_14 rfl rfl ?_
        refine J_iload_n (i := 3) hT dL_fits_15 rfl rfl ?_
        refine J_ishr hT dL_fits_16 ?_
        refine J_iconst (v := 1) hT dL_fits_17 rfl ?_
        refine J_iand hT dL_fits_18 ?_
        refine J_topil (e1) ?_
        refine J_iconst (v := 1) hT dL_fits_19 rfl ?_
        refine J_icmp_ne (tgt := 27) hT dL_fits_20 (by decide) (fun _ => ?_) (fun q => absurd q ((by decide)))
        refine J_iconst (v := 0) hT dL_fits_27 rfl ?_
        refine S_istore4 hT dL_fits_28 rfl ?_
        refine J_iload (i := 4) hT dL_fits_30 rfl ?_
        refine J_if_ne (tgt := 48) hT dL_fits_32 (by decide) (fun q => absurd (rfl) q) (fun _ => ?_)
        refine J_aload_n (i := 0) hT dL_fits_35 rfl rfl ?_
        refine J_iload_n (i := 3) hT dL_fits_36 rfl rfl ?_
        refine R_callW1 hY dL_fits_37 mfL_value mtL_value mwL_114 (q_value hZ hP hi) rfl (by decide) rfl rfl (Nat.le_of_ble_eq_true rfl) (Nat.le_refl _) (Nat.le_refl _) ?_
        refine J_aload_n (i := 0) hT dL_fits_40 rfl rfl ?_
        refine J_iload_n (i := 3) hT dL_fits_41 rfl rfl ?_
        refine J_callW hY dL_fits_42 mfL_worth mtL_worth mwL_116 (q_worth hZ hO hP hi) rfl (by decide) rfl rfl (Nat.le_of_ble_eq_true rfl) (Nat.le_refl _) (Nat.le_refl _) (fun r1 μ1 hq => ?_)
        obtain ⟨rfl, σy, rfl, hP2, hy⟩ := hq
        show zJ _ _ _ _ (.int (worthN S i) :: _) _ _ _
        refine J_icmp_ne (tgt := 103) hT dL_fits_45 (by decide) (fun q => absurd (f1 h80) q) (fun _ => ?_)
        refine J_iload (i := 4) hT dL_fits_48 rfl ?_
        refine J_if_eq (tgt := 61) hT dL_fits_50 (by decide) (fun _ => ?_) (fun q => absurd (rfl) q)
        exact tl σy 0 hP2 (fun b j q => (hy b j q).trans (hx b j q))
  refine J_iconst (v := 1) hT dL_fits_0 rfl ?_
  refine S_istore2 hT dL_fits_1 rfl rfl ?_
  refine J_iconst (v := 0) hT dL_fits_2 rfl ?_
  refine S_istore3 hT dL_fits_3 rfl rfl ?_
  exact loop1 12 0 rfl σ none h (fun _ _ _ => rfl)

