/-! ===== the questions, asked by the law's wrappers ===== -/
theorem zW1 {l : Launch} {Z : zZ} {mX mL : zM} {hh : zHh} {k k' : Nat} {aX aL : List Value} {μ μ1 : zMem} {v : Int32} (hw : zCt l Z mX k 0 0 aX μ (fun r μx => ∃ x, r = some (.int x) ∧ (x = v ∧ μx = μ1)) → zCtW l Z mL hh k' 0 0 aL μ (fun r μx => ∃ x, r = some (.int x) ∧ (x = v ∧ μx = μ1))) (ct : zCt l Z mX k 0 0 aX μ (fun r μ' => r = some (.int v) ∧ μ' = μ1)) : zCtW l Z mL hh k' 0 0 aL μ (fun r μ' => r = some (.int v) ∧ μ' = μ1) :=
  zCtW_mono (hw (zCt_mono ct (fun r μ' q => ⟨v, q.1, rfl, q.2⟩))) (fun r μ' q => by
    obtain ⟨x, rfl, rfl, e⟩ := q
    exact ⟨rfl, e⟩)
section ZQ
variable {l : Launch} {Z : zZ} {n L : Nat} {μ : zMem} {σ : zS2} {π : zP2} {g : zG2} {S : zS2}
theorem q_value (hZ : zSt l Z) (h : PW n L μ σ π S) {c : Nat} (hc : c < 12) : zCtW l Z mL_value hhL_value 3 0 0 [.ref 0, .int (nI c)] (zA4 μ σ π g) (fun r μ' => r = some (.int (S 88 c)) ∧ μ' = zA4 μ σ π g) := zW1 (w_value (μ := zA4 μ σ π g) hZ h.cw.k0) (c_X8_value hZ h.cw hc)
theorem q_depth (hZ : zSt l Z) (h : PW n L μ σ π S) {c : Nat} (hc : c < 12) : zCtW l Z mL_depth hhL_depth 3 0 0 [.ref 0, .int (nI c)] (zA4 μ σ π g) (fun r μ' => r = some (.int (S 79 c)) ∧ μ' = zA4 μ σ π g) := zW1 (w_depth (μ := zA4 μ σ π g) hZ h.cw.k0) (c_X8_depth hZ h.cw hc)
theorem q_state (hZ : zSt l Z) (h : PW n L μ σ π S) {c : Nat} (hc : c < 5) : zCtW l Z mL_state hhL_state 3 0 0 [.ref 0, .int (nI c)] (zA4 μ σ π g) (fun r μ' => r = some (.int (S 92 c)) ∧ μ' = zA4 μ σ π g) := zW1 (w_state (μ := zA4 μ σ π g) hZ h.cw.k0) (c_X8_state hZ h.cw hc)
theorem q_load (hZ : zSt l Z) (h : PW n L μ σ π S) {c : Nat} (hc : c < 5) : zCtW l Z mL_load hhL_load 3 0 0 [.ref 0, .int (nI c)] (zA4 μ σ π g) (fun r μ' => r = some (.int (S 95 c)) ∧ μ' = zA4 μ σ π g) := zW1 (w_load (μ := zA4 μ σ π g) hZ h.cw.k0) (c_X8_load hZ h.cw hc)
theorem q_told (hZ : zSt l Z) (h : PW n L μ σ π S) {c : Nat} (hc : c < 5) : zCtW l Z mL_told hhL_told 3 0 0 [.ref 0, .int (nI c)] (zA4 μ σ π g) (fun r μ' => r = some (.int (S 96 c)) ∧ μ' = zA4 μ σ π g) := zW1 (w_told (μ := zA4 μ σ π g) hZ h.cw.k0) (c_X8_told hZ h.cw hc)
theorem q_starts (hZ : zSt l Z) (h : PW n L μ σ π S) {c : Nat} (hc : c < 5) : zCtW l Z mL_starts hhL_starts 3 0 0 [.ref 0, .int (nI c)] (zA4 μ σ π g) (fun r μ' => r = some (.int (S 97 c)) ∧ μ' = zA4 μ σ π g) := zW1 (w_starts (μ := zA4 μ σ π g) hZ h.cw.k0) (c_X8_starts hZ h.cw hc)
theorem q_stale (hZ : zSt l Z) (h : PW n L μ σ π S) {c : Nat} (hc : c < 12) : zCtW l Z mL_stale hhL_stale 3 0 0 [.ref 0, .int (nI c)] (zA4 μ σ π g) (fun r μ' => r = some (.int (zbi (staleB S c))) ∧ μ' = zA4 μ σ π g) := w_stale (μ := zA4 μ σ π g) hZ h.cw.k0 (c_X8_isStale hZ h.cw h.ri h.xi hc)
theorem q_loop (hZ : zSt l Z) (h : PW n L μ σ π S) {c : Nat} (hc : c < 5) : zCtW l Z mL_loop hhL_loop 5 0 0 [.ref 0, .int (nI c)] (zA4 μ σ π g) (fun r μ' => r = some (.int (zbi (loopB S c))) ∧ μ' = zA4 μ σ π g) := w_loop (μ := zA4 μ σ π g) hZ h.cw.k0 (c_X8_isLoop hZ h.cw h.ri h.xi hc)
theorem q_worth (hZ : zSt l Z) (hO : zOps Z) (h : PW n L μ σ π S) {c : Nat} (hc : c < 12) : zCtW l Z mL_worth hhL_worth 4 0 0 [.ref 0, .int (nI c)] (zA4 μ σ π g) (fun r μ' => r = some (.int (worthN S c)) ∧ ∃ σ', μ' = zA4 μ σ' π g ∧ PW n L μ σ' π S ∧ ∀ b j, b ≠ 12 → σ' b j = σ b j) :=
  zCtW_mono (w_worth (μ := zA4 μ σ π g) (Q := fun x μ' => x = worthN S c ∧ ∃ σ', μ' = zA4 μ σ' π g ∧ PW n L μ σ' π S ∧ ∀ b j, b ≠ 12 → σ' b j = σ b j) hZ h.cw.k0 (zCt_mono (c_X8_worth hZ hO h.cw h.ri h.xi hc) (fun r μ' q => by
    obtain ⟨q1, σ', q2, q3, q4⟩ := q
    exact ⟨_, q1, rfl, σ', q2, h.to q3, q4⟩))) (fun r μ' q => by
    obtain ⟨x, rfl, rfl, e⟩ := q
    exact ⟨rfl, e⟩)
end ZQ
set_option maxRecDepth 100000 in
set_option maxHeartbeats 4000000 in
theorem c_L_sees {l : Launch} {Z : zZ} (hZ : zSt l Z) {μ : zMem} {σ : zS2} {π : zP2} {g : zG2} {n L : Nat} {S : zS2} (h : PW n L μ σ π S) {r : Nat} (hr : lwR μ r) (hk : zK μ r = 0) (hl : zL μ r = 47) : zCt l Z mL_sees 8 0 0 [.ref 0, .ref r] (zA4 μ σ π g) (fun v μ' => v = none ∧ ∃ σ', μ' = zA4 μ σ' π g ∧ (∀ x, x ≠ r → ∀ j, σ' x j = σ x j) ∧ ∀ j, j < 47 → σ' r j = sw n S j) := by
  refine zCt_of hZ mpL_sees (Nat.le_of_ble_eq_true rfl) (L := [some (.ref 0), some (.ref r), none]) rfl (fun τ hY => ?_)
  have hT := hY.1
  have end3 : ∀ σx : zS2, (∀ x, x ≠ r → ∀ j, σx x j = σ x j) → (∀ j, j < 44 → σx r j = sw n S j) → zJ τ (zFn τ (fun v μ' => v = none ∧ ∃ σ', μ' = zA4 μ σ' π g ∧ (∀ x, x ≠ r → ∀ j, σ' x j = σ x j) ∧ ∀ j, j < 47 → σ' r j = sw n S j) 0 0) 107 [some (.ref 0), some (.ref r), some (.int (nI 5))] [] (zA4 μ σx π g) 0 0 := by
    intro σx hx hs
    have hP : PW n L μ σx π S := h.row hr hx
    have hP2 : PW n L μ (zu σx r 44 (S 67 34)) π S := hP.row hr (fun x q j => zu_ne _ _ _ _ q j)
    have hP3 : PW n L μ (zu (zu σx r 44 (S 67 34)) r 45 (S 67 33)) π S := hP2.row hr (fun x q j => zu_ne _ _ _ _ q j)
    have hfin : (∀ x, x ≠ r → ∀ j, zu (zu (zu σx r 44 (S 67 34)) r 45 (S 67 33)) r 46 (nI n) x j = σ x j) ∧ ∀ j, j < 47 → zu (zu (zu σx r 44 (S 67 34)) r 45 (S 67 33)) r 46 (nI n) r j = sw n S j := by
      refine ⟨fun x q j => by rw [zu_ne _ _ _ _ q, zu_ne _ _ _ _ q, zu_ne _ _ _ _ q]; exact hx x q j, fun j hj => ?_⟩
      by_cases q6 : j = 46
      · rw [q6, zu_eq]; rfl
      · rw [zu_nj _ _ _ _ _ q6]
        by_cases q5 : j = 45
        · rw [q5, zu_eq]; rfl
        · rw [zu_nj _ _ _ _ _ q5]
          by_cases q4 : j = 44
          · rw [q4, zu_eq]; rfl
          · rw [zu_nj _ _ _ _ _ q4]; exact hs j (by omega)
    refine J_aload_n (i := 1) hT dL_sees_107 rfl rfl ?_
    refine J_bipush (v := 44) hT dL_sees_108 rfl ?_
    refine J_aload_n (i := 0) hT dL_sees_110 rfl rfl ?_
    refine R_callV1 (ci := 8) hY dL_sees_111 mfX8_now miX8_now msX8_now kL_136 ⟨by decide, rfl⟩ hP.cw.k0 (c_X8_now hZ hP.cw) rfl (by decide) rfl rfl (Nat.le_of_ble_eq_true rfl) (Nat.le_refl _) (Nat.le_refl _) ?_
    refine R_iast hT dL_sees_114 hk hl (by first | exact ⟨rfl, by decide⟩ | exact zix_nI (by omega) (by decide) | assumption) ?_
    refine J_aload_n (i := 1) hT dL_sees_115 rfl rfl ?_
    refine J_bipush (v := 45) hT dL_sees_116 rfl ?_
    refine J_aload_n (i := 0) hT dL_sees_118 rfl rfl ?_
    refine R_callV1 (ci := 8) hY dL_sees_119 mfX8_work miX8_work msX8_work kL_139 ⟨by decide, rfl⟩ hP2.cw.k0 (c_X8_work hZ hP2.cw) rfl (by decide) rfl rfl (Nat.le_of_ble_eq_true rfl) (Nat.le_refl _) (Nat.le_refl _) ?_
    refine R_iast hT dL_sees_122 hk hl (by first | exact ⟨rfl, by decide⟩ | exact zix_nI (by omega) (by decide) | assumption) ?_
    refine J_aload_n (i := 1) hT dL_sees_123 rfl rfl ?_
    refine J_bipush (v := 46) hT dL_sees_124 rfl ?_
    refine J_aload_n (i := 0) hT dL_sees_126 rfl rfl ?_
    refine R_callV1 (ci := 8) hY dL_sees_127 mfX8_steps miX8_steps msX8_steps kL_142 ⟨by decide, rfl⟩ hP3.cw.k0 (c_X8_steps hZ hP3.cw) rfl (by decide) rfl rfl (Nat.le_of_ble_eq_true rfl) (Nat.le_refl _) (Nat.le_refl _) ?_
    refine R_iast hT dL_sees_130 hk hl (by first | exact ⟨rfl, by decide⟩ | exact zix_nI (by omega) (by decide) | assumption) ?_
    exact J_vret hT dL_sees_131 rfl (⟨rfl, _, rfl, hfin.1, hfin.2⟩) (Nat.le_refl _) (Nat.le_refl _)
  have loop2 : ∀ m i, i + m = 5 → ∀ σx : zS2, (∀ x, x ≠ r → ∀ j, σx x j = σ x j) → (∀ j, j < 24 → σx r j = sw n S j) → (∀ k, k < i → σx r (24 + k) = sw n S (24 + k) ∧ σx r (29 + k) = sw n S (29 + k) ∧ σx r (34 + k) = sw n S (34 + k) ∧ σx r (39 + k) = sw n S (39 + k)) → zJ τ (zFn τ (fun v μ' => v = none ∧ ∃ σ', μ' = zA4 μ σ' π g ∧ (∀ x, x ≠ r → ∀ j, σ' x j = σ x j) ∧ ∀ j, j < 47 → σ' r j = sw n S j) 0 0) 43 [some (.ref 0), some (.ref r), some (.int (nI i))] [] (zA4 μ σx π g) 0 0 := by
    intro m
    induction m with
    | zero =>
      intro i him σx hx h1 h2
      have : i = 5 := by omega
      subst this
      refine J_iload_n (i := 2) hT dL_sees_43 rfl rfl ?_
      refine J_iconst (v := 5) hT dL_sees_44 rfl ?_
      refine J_icmp_ge (tgt := 107) hT dL_sees_45 (by decide) (fun _ => ?_) (fun q => absurd (nI_le (a := 5) (b := 5) (by decide) (by decide)) q)
      exact end3 σx hx (fun j hj => by
              by_cases q : j < 24
              · exact h1 j q
              · by_cases q2 : j < 29
                · have := (h2 (j - 24) (by omega)).1
                  rw [show 24 + (j - 24) = j by omega] at this; exact this
                · by_cases q3 : j < 34
                  · have := (h2 (j - 29) (by omega)).2.1
                    rw [show 29 + (j - 29) = j by omega] at this; exact this
                  · by_cases q4 : j < 39
                    · have := (h2 (j - 34) (by omega)).2.2.1
                      rw [show 34 + (j - 34) = j by omega] at this; exact this
                    · have := (h2 (j - 39) (by omega)).2.2.2
                      rw [show 39 + (j - 39) = j by omega] at this; exact this)
    | succ m ih =>
      intro i him σx hx h1 h2
      have hi : i < 5 := by omega
      have a1 : ∀ c : Nat, (nI c : Int32) + nI i = nI (c + i) := fun c => nI_add c i
      have hP : PW n L μ σx π S := h.row hr hx
      have hP2 : PW n L μ (zu σx r (24 + i) (S 92 i + 10 * S 97 i)) π S := hP.row hr (fun x q j => zu_ne _ _ _ _ q j)
      have hP3 : PW n L μ (zu (zu σx r (24 + i) (S 92 i + 10 * S 97 i)) r (29 + i) (S 95 i)) π S := hP2.row hr (fun x q j => zu_ne _ _ _ _ q j)
      have hP4 : PW n L μ (zu (zu (zu σx r (24 + i) (S 92 i + 10 * S 97 i)) r (29 + i) (S 95 i)) r (34 + i) (S 96 i)) π S := hP3.row hr (fun x q j => zu_ne _ _ _ _ q j)
      have hgo := ih (i + 1) (by omega) (zu (zu (zu (zu σx r (24 + i) (S 92 i + 10 * S 97 i)) r (29 + i) (S 95 i)) r (34 + i) (S 96 i)) r (39 + i) (zbi (loopB S i))) (fun x q j => by rw [zu_ne _ _ _ _ q, zu_ne _ _ _ _ q, zu_ne _ _ _ _ q, zu_ne _ _ _ _ q]; exact hx x q j) (fun j hj => by rw [zu_nj _ _ _ _ _ (by omega), zu_nj _ _ _ _ _ (by omega), zu_nj _ _ _ _ _ (by omega), zu_nj _ _ _ _ _ (by omega)]; exact h1 j hj) (fun k hk => by
        by_cases q : k = i
        · subst q
          have s1 : sw n S (24 + k) = S 92 k + 10 * S 97 k := by simp [sw, show ¬ 24 + k < 12 by omega, show ¬ 24 + k < 24 by omega, show 24 + k < 29 by omega]
          have s2 : sw n S (29 + k) = S 95 k := by simp [sw, show ¬ 29 + k < 12 by omega, show ¬ 29 + k < 24 by omega, show ¬ 29 + k < 29 by omega, show 29 + k < 34 by omega]
          have s3 : sw n S (34 + k) = S 96 k := by simp [sw, show ¬ 34 + k < 12 by omega, show ¬ 34 + k < 24 by omega, show ¬ 34 + k < 29 by omega, show ¬ 34 + k < 34 by omega, show 34 + k < 39 by omega]
          have s4 : sw n S (39 + k) = zbi (loopB S k) := by simp [sw, show ¬ 39 + k < 12 by omega, show ¬ 39 + k < 24 by omega, show ¬ 39 + k < 29 by omega, show ¬ 39 + k < 34 by omega, show ¬ 39 + k < 39 by omega, show 39 + k < 44 by omega]
          refine ⟨?_, ?_, ?_, ?_⟩
          · rw [zu_nj _ _ _ _ _ (by omega), zu_nj _ _ _ _ _ (by omega), zu_nj _ _ _ _ _ (by omega), zu_eq, s1]
          · rw [zu_nj _ _ _ _ _ (by omega), zu_nj _ _ _ _ _ (by omega), zu_eq, s2]
          · rw [zu_nj _ _ _ _ _ (by omega), zu_eq, s3]
          · rw [zu_eq, s4]
        · obtain ⟨b1, b2, b3, b4⟩ := h2 k (by omega)
          refine ⟨?_, ?_, ?_, ?_⟩
          all_goals (rw [zu_nj _ _ _ _ _ (by omega), zu_nj _ _ _ _ _ (by omega), zu_nj _ _ _ _ _ (by omega), zu_nj _ _ _ _ _ (by omega)]; assumption))
      refine J_iload_n (i := 2) hT dL_sees_43 rfl rfl ?_
      refine J_iconst (v := 5) hT dL_sees_44 rfl ?_
      refine J_icmp_ge (tgt := 107) hT dL_sees_45 (by decide) (fun q => absurd q (Int32.not_le.mpr (nI_lt (a := i) (b := 5) (by omega) (by decide)))) (fun _ => ?_)
      refine J_aload_n (i := 1) hT dL_sees_48 rfl rfl ?_
      refine J_bipush (v := 24) hT dL_sees_49 rfl ?_
      refine J_iload_n (i := 2) hT dL_sees_51 rfl rfl ?_
      refine J_iadd hT dL_sees_52 ?_
      refine J_topil (a1 24) ?_
      refine J_aload_n (i := 0) hT dL_sees_53 rfl rfl ?_
      refine J_iload_n (i := 2) hT dL_sees_54 rfl rfl ?_
      refine R_callW1 hY dL_sees_55 mfL_state mtL_state mwL_125 (q_state hZ hP hi) rfl (by decide) rfl rfl (Nat.le_of_ble_eq_true rfl) (Nat.le_refl _) (Nat.le_refl _) ?_
      refine J_bipush (v := 10) hT dL_sees_58 rfl ?_
      refine J_aload_n (i := 0) hT dL_sees_60 rfl rfl ?_
      refine J_iload_n (i := 2) hT dL_sees_61 rfl rfl ?_
      refine R_callW1 hY dL_sees_62 mfL_starts mtL_starts mwL_131 (q_starts hZ hP hi) rfl (by decide) rfl rfl (Nat.le_of_ble_eq_true rfl) (Nat.le_refl _) (Nat.le_refl _) ?_
      refine J_imul hT dL_sees_65 ?_
      refine J_iadd hT dL_sees_66 ?_
      refine R_iast hT dL_sees_67 hk hl (zix_nI (by omega) (by decide)) ?_
      refine J_aload_n (i := 1) hT dL_sees_68 rfl rfl ?_
      refine J_bipush (v := 29) hT dL_sees_69 rfl ?_
      refine J_iload_n (i := 2) hT dL_sees_71 rfl rfl ?_
      refine J_iadd hT dL_sees_72 ?_
      refine J_topil (a1 29) ?_
      refine J_aload_n (i := 0) hT dL_sees_73 rfl rfl ?_
      refine J_iload_n (i := 2) hT dL_sees_74 rfl rfl ?_
      refine R_callW1 hY dL_sees_75 mfL_load mtL_load mwL_127 (q_load hZ hP2 hi) rfl (by decide) rfl rfl (Nat.le_of_ble_eq_true rfl) (Nat.le_refl _) (Nat.le_refl _) ?_
      refine R_iast hT dL_sees_78 hk hl (zix_nI (by omega) (by decide)) ?_
      refine J_aload_n (i := 1) hT dL_sees_79 rfl rfl ?_
      refine J_bipush (v := 34) hT dL_sees_80 rfl ?_
      refine J_iload_n (i := 2) hT dL_sees_82 rfl rfl ?_
      refine J_iadd hT dL_sees_83 ?_
      refine J_topil (a1 34) ?_
      refine J_aload_n (i := 0) hT dL_sees_84 rfl rfl ?_
      refine J_iload_n (i := 2) hT dL_sees_85 rfl rfl ?_
      refine R_callW1 hY dL_sees_86 mfL_told mtL_told mwL_129 (q_told hZ hP3 hi) rfl (by decide) rfl rfl (Nat.le_of_ble_eq_true rfl) (Nat.le_refl _) (Nat.le_refl _) ?_
      refine R_iast hT dL_sees_89 hk hl (zix_nI (by omega) (by decide)) ?_
      refine J_aload_n (i := 1) hT dL_sees_90 rfl rfl ?_
      refine J_bipush (v := 39) hT dL_sees_91 rfl ?_
      refine J_iload_n (i := 2) hT dL_sees_93 rfl rfl ?_
      refine J_iadd hT dL_sees_94 ?_
      refine J_topil (a1 39) ?_
      refine J_aload_n (i := 0) hT dL_sees_95 rfl rfl ?_
      refine J_iload_n (i := 2) hT dL_sees_96 rfl rfl ?_
      refine R_callW1 hY dL_sees_97 mfL_loop mtL_loop mwL_133 (q_loop hZ hP4 hi) rfl (by decide) rfl rfl (Nat.le_of_ble_eq_true rfl) (Nat.le_refl _) (Nat.le_refl _) ?_
      refine R_iast hT dL_sees_100 hk hl (zix_nI (by omega) (by decide)) ?_
      refine S_iinc2 hT dL_sees_101 (nI_inc _) rfl ?_
      refine J_goto (tgt := 43) hT dL_sees_104 (by decide) ?_
      exact hgo
  have loop1 : ∀ m i, i + m = 12 → ∀ σx : zS2, (∀ x, x ≠ r → ∀ j, σx x j = σ x j) → (∀ k, k < i → σx r k = sw n S k ∧ σx r (12 + k) = sw n S (12 + k)) → zJ τ (zFn τ (fun v μ' => v = none ∧ ∃ σ', μ' = zA4 μ σ' π g ∧ (∀ x, x ≠ r → ∀ j, σ' x j = σ x j) ∧ ∀ j, j < 47 → σ' r j = sw n S j) 0 0) 2 [some (.ref 0), some (.ref r), some (.int (nI i))] [] (zA4 μ σx π g) 0 0 := by
    intro m
    induction m with
    | zero =>
      intro i him σx hx h2
      have : i = 12 := by omega
      subst this
      refine J_iload_n (i := 2) hT dL_sees_2 rfl rfl ?_
      refine J_bipush (v := 12) hT dL_sees_3 rfl ?_
      refine J_icmp_ge (tgt := 41) hT dL_sees_5 (by decide) (fun _ => ?_) (fun q => absurd (nI_le (a := 12) (b := 12) (by decide) (by decide)) q)
      refine J_iconst (v := 0) hT dL_sees_41 rfl ?_
      refine S_istore2 hT dL_sees_42 rfl rfl ?_
      exact loop2 5 0 rfl σx hx (fun j hj => by
              by_cases q : j < 12
              · exact (h2 j q).1
              · have := (h2 (j - 12) (by omega)).2
                rw [show 12 + (j - 12) = j by omega] at this; exact this) (fun k hk => absurd hk (by omega))
    | succ m ih =>
      intro i him σx hx h2
      have hi : i < 12 := by omega
      have hP : PW n L μ σx π S := h.row hr hx
      have hP2 : PW n L μ (zu σx r i (S 88 i)) π S := hP.row hr (fun x q j => zu_ne _ _ _ _ q j)
      have hgo := ih (i + 1) (by omega) (zu (zu σx r i (S 88 i)) r (12 + i) (2 * S 79 i + zbi (staleB S i))) (fun x q j => by rw [zu_ne _ _ _ _ q, zu_ne _ _ _ _ q]; exact hx x q j) (fun k hk => by
        by_cases q : k = i
        · subst q
          have s1 : sw n S k = S 88 k := by simp [sw, show k < 12 by omega]
          have s2 : sw n S (12 + k) = 2 * S 79 k + zbi (staleB S k) := by simp [sw, show ¬ 12 + k < 12 by omega, show 12 + k < 24 by omega]
          exact ⟨by rw [zu_nj _ _ _ _ _ (by omega), zu_eq, s1], by rw [zu_eq, s2]⟩
        · obtain ⟨b1, b2⟩ := h2 k (by omega)
          refine ⟨?_, ?_⟩
          all_goals (rw [zu_nj _ _ _ _ _ (by omega), zu_nj _ _ _ _ _ (by omega)]; assumption))
      refine J_iload_n (i := 2) hT dL_sees_2 rfl rfl ?_
      refine J_bipush (v := 12) hT dL_sees_3 rfl ?_
      refine J_icmp_ge (tgt := 41) hT dL_sees_5 (by decide) (fun q => absurd q (Int32.not_le.mpr (nI_lt (a := i) (b := 12) (by omega) (by decide)))) (fun _ => ?_)
      refine J_aload_n (i := 1) hT dL_sees_8 rfl rfl ?_
      refine J_iload_n (i := 2) hT dL_sees_9 rfl rfl ?_
      refine J_aload_n (i := 0) hT dL_sees_10 rfl rfl ?_
      refine J_iload_n (i := 2) hT dL_sees_11 rfl rfl ?_
      refine R_callW1 hY dL_sees_12 mfL_value mtL_value mwL_114 (q_value hZ hP hi) rfl (by decide) rfl rfl (Nat.le_of_ble_eq_true rfl) (Nat.le_refl _) (Nat.le_refl _) ?_
      refine R_iast hT dL_sees_15 hk hl (by first | exact ⟨rfl, by decide⟩ | exact zix_nI (by omega) (by decide) | assumption) ?_
      refine J_aload_n (i := 1) hT dL_sees_16 rfl rfl ?_
      refine J_bipush (v := 12) hT dL_sees_17 rfl ?_
      refine J_iload_n (i := 2) hT dL_sees_19 rfl rfl ?_
      refine J_iadd hT dL_sees_20 ?_
      refine J_topil (nI_add 12 i) ?_
      refine J_iconst (v := 2) hT dL_sees_21 rfl ?_
      refine J_aload_n (i := 0) hT dL_sees_22 rfl rfl ?_
      refine J_iload_n (i := 2) hT dL_sees_23 rfl rfl ?_
      refine R_callW1 hY dL_sees_24 mfL_depth mtL_depth mwL_121 (q_depth hZ hP2 hi) rfl (by decide) rfl rfl (Nat.le_of_ble_eq_true rfl) (Nat.le_refl _) (Nat.le_refl _) ?_
      refine J_imul hT dL_sees_27 ?_
      refine J_aload_n (i := 0) hT dL_sees_28 rfl rfl ?_
      refine J_iload_n (i := 2) hT dL_sees_29 rfl rfl ?_
      refine R_callW1 hY dL_sees_30 mfL_stale mtL_stale mwL_118 (q_stale hZ hP2 hi) rfl (by decide) rfl rfl (Nat.le_of_ble_eq_true rfl) (Nat.le_refl _) (Nat.le_refl _) ?_
      refine J_iadd hT dL_sees_33 ?_
      refine R_iast hT dL_sees_34 hk hl (zix_nI (by omega) (by decide)) ?_
      refine S_iinc2 hT dL_sees_35 (nI_inc _) rfl ?_
      refine J_goto (tgt := 2) hT dL_sees_38 (by decide) ?_
      exact hgo
  refine J_iconst (v := 0) hT dL_sees_0 rfl ?_
  refine S_istore2 hT dL_sees_1 rfl rfl ?_
  exact loop1 12 0 rfl σ (fun _ _ _ => rfl) (fun k hk => absurd hk (by omega))

set_option maxRecDepth 100000 in
set_option maxHeartbeats 4000000 in
theorem c_L_areAlike {l : Launch} {Z : zZ} (hZ : zSt l Z) {μ : zMem} {σ : zS2} {π : zP2} {g : zG2} {a b : Nat} (ka : zK μ a = 0 ∧ zL μ a = 47) (kb : zK μ b = 0 ∧ zL μ b = 47) (e : ∀ j, j < 47 → σ a j = σ b j) : zCt l Z mL_areAlike 0 0 0 [.ref a, .ref b] (zA4 μ σ π g) (fun v μ' => v = some (.int 1) ∧ μ' = zA4 μ σ π g) := by
  refine zCt_of hZ mpL_areAlike (Nat.le_of_ble_eq_true rfl) (L := [some (.ref a), some (.ref b), none, none]) rfl (fun τ hY => ?_)
  have hT := hY.1
  have loop : ∀ m i, i + m = 47 → zJ τ (zFn τ (fun v μ' => v = some (.int 1) ∧ μ' = zA4 μ σ π g) 0 0) 4 [some (.ref a), some (.ref b), some (.int 1), some (.int (nI i))] [] (zA4 μ σ π g) 0 0 := by
    intro m
    induction m with
    | zero =>
      intro i him
      have : i = 47 := by omega
      subst this
      refine J_iload_n (i := 3) hT dL_areAlike_4 rfl rfl ?_
      refine J_bipush (v := 47) hT dL_areAlike_5 rfl ?_
      refine J_icmp_ge (tgt := 35) hT dL_areAlike_7 (by decide) (fun _ => ?_) (fun q => absurd (nI_le (a := 47) (b := 47) (by decide) (by decide)) q)
      refine J_iload_n (i := 2) hT dL_areAlike_35 rfl rfl ?_
      exact J_iret hT dL_areAlike_36 rfl rfl (⟨rfl, rfl⟩) (Nat.le_refl _) (Nat.le_refl _)
    | succ m ih =>
      intro i him
      refine J_iload_n (i := 3) hT dL_areAlike_4 rfl rfl ?_
      refine J_bipush (v := 47) hT dL_areAlike_5 rfl ?_
      refine J_icmp_ge (tgt := 35) hT dL_areAlike_7 (by decide) (fun q => absurd q (Int32.not_le.mpr (nI_lt (a := i) (b := 47) (by omega) (by decide)))) (fun _ => ?_)
      refine J_iload_n (i := 2) hT dL_areAlike_10 rfl rfl ?_
      refine J_if_eq (tgt := 27) hT dL_areAlike_11 (by decide) (fun q => absurd q ((by decide))) (fun _ => ?_)
      refine J_aload_n (i := 0) hT dL_areAlike_14 rfl rfl ?_
      refine J_iload_n (i := 3) hT dL_areAlike_15 rfl rfl ?_
      refine R_iald hT dL_areAlike_16 ka.1 ka.2 (zix_nI (by omega) (by decide)) ?_
      refine J_aload_n (i := 1) hT dL_areAlike_17 rfl rfl ?_
      refine J_iload_n (i := 3) hT dL_areAlike_18 rfl rfl ?_
      refine R_iald hT dL_areAlike_19 kb.1 kb.2 (zix_nI (by omega) (by decide)) ?_
      refine J_icmp_ne (tgt := 27) hT dL_areAlike_20 (by decide) (fun q => absurd (e i (by omega)) q) (fun _ => ?_)
      refine J_iconst (v := 1) hT dL_areAlike_23 rfl ?_
      refine J_goto (tgt := 28) hT dL_areAlike_24 (by decide) ?_
      refine S_istore2 hT dL_areAlike_28 rfl rfl ?_
      refine S_iinc3 hT dL_areAlike_29 (nI_inc _) rfl ?_
      refine J_goto (tgt := 4) hT dL_areAlike_32 (by decide) ?_
      exact ih (i + 1) (by omega)
  refine J_iconst (v := 1) hT dL_areAlike_0 rfl ?_
  refine S_istore2 hT dL_areAlike_1 rfl rfl ?_
  refine J_iconst (v := 0) hT dL_areAlike_2 rfl ?_
  refine S_istore3 hT dL_areAlike_3 rfl rfl ?_
  exact loop 47 0 rfl

