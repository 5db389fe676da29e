theorem TI.svc {t i : Nat} {σ σ' : zS2} {π π' : zP2} (h : TI t 12 5 i σ π) (hi : i < 5) (h1 : ∀ b, b ≠ t + 25 + i → ∀ j, σ' b j = σ b j) (h2 : ∀ b j, b ≠ t + 25 + i → ¬ (b = t + 6 ∧ j = i) → π' b j = π b j) (h3 : π' (t + 6) i = some (t + 25 + i)) (h4 : σ' (t + 25 + i) 0 = nI i) (h5 : ∀ j, 1 ≤ j → j ≤ 13 → σ' (t + 25 + i) j = svD j) : TI t 12 5 (i + 1) σ' π' := by
  obtain ⟨⟨a1, a2, a3, a4, a5, a6⟩, ⟨b1, b2, b3⟩, ⟨c1, c2, c3⟩, d, e, f⟩ := h
  have p : ∀ b j, b ≠ t + 25 + i → b ≠ t + 6 → π' b j = π b j := fun b j q1 q2 => h2 b j q1 (fun z => q2 z.1)
  refine ⟨⟨(p _ _ (by omega) (by omega)).trans a1, (p _ _ (by omega) (by omega)).trans a2, (p _ _ (by omega) (by omega)).trans a3, (p _ _ (by omega) (by omega)).trans a4, (p _ _ (by omega) (by omega)).trans a5, (p _ _ (by omega) (by omega)).trans a6⟩, ⟨(h1 _ (by omega) _).trans b1, (h1 _ (by omega) _).trans b2, (h1 _ (by omega) _).trans b3⟩, ⟨(p _ _ (by omega) (by omega)).trans c1, (h1 _ (by omega) _).trans c2, (h1 _ (by omega) _).trans c3⟩, fun k hk => ?_, fun k hk => ?_, fun k hk => ?_⟩
  · obtain ⟨d1, d2, d3, d4, d5, d6, d7⟩ := d k hk
    exact ⟨(p _ _ (by omega) (by omega)).trans d1, (p _ _ (by omega) (by omega)).trans d2, (p _ _ (by omega) (by omega)).trans d3, (h1 _ (by omega) _).trans d4, (h1 _ (by omega) _).trans d5, (h1 _ (by omega) _).trans d6, (h1 _ (by omega) _).trans d7⟩
  · obtain ⟨e1, e2, e3⟩ := e k hk
    exact ⟨(p _ _ (by omega) (by omega)).trans e1, (h1 _ (by omega) _).trans e2, (h1 _ (by omega) _).trans e3⟩
  · by_cases q : k = i
    · subst q; exact ⟨h3, h4, h5⟩
    · obtain ⟨f1, f2, f3⟩ := f k (by omega)
      exact ⟨(h2 _ _ (by omega) (by omega)).trans f1, (h1 _ (by omega) _).trans f2, fun j q1 q2 => (h1 _ (by omega) _).trans (f3 j q1 q2)⟩
theorem TI.rd {t i : Nat} {σ σ' : zS2} {π π' : zP2} (h : TI t 12 i 0 σ π) (hi : i < 5) (h1 : ∀ b, b ≠ t + 20 + i → ∀ j, σ' b j = σ b j) (h2 : ∀ b j, b ≠ t + 20 + i → ¬ (b = t + 5 ∧ j = i) → π' b j = π b j) (h3 : π' (t + 5) i = some (t + 20 + i)) (h4 : σ' (t + 20 + i) 0 = 0) (h5 : σ' (t + 20 + i) 1 = -1) : TI t 12 (i + 1) 0 σ' π' := by
  obtain ⟨⟨a1, a2, a3, a4, a5, a6⟩, ⟨b1, b2, b3⟩, ⟨c1, c2, c3⟩, d, e, f⟩ := h
  have p : ∀ b j, b ≠ t + 20 + i → b ≠ t + 5 → π' b j = π b j := fun b j q1 q2 => h2 b j q1 (fun z => q2 z.1)
  refine ⟨⟨(p _ _ (by omega) (by omega)).trans a1, (p _ _ (by omega) (by omega)).trans a2, (p _ _ (by omega) (by omega)).trans a3, (p _ _ (by omega) (by omega)).trans a4, (p _ _ (by omega) (by omega)).trans a5, (p _ _ (by omega) (by omega)).trans a6⟩, ⟨(h1 _ (by omega) _).trans b1, (h1 _ (by omega) _).trans b2, (h1 _ (by omega) _).trans b3⟩, ⟨(p _ _ (by omega) (by omega)).trans c1, (h1 _ (by omega) _).trans c2, (h1 _ (by omega) _).trans c3⟩, fun k hk => ?_, fun k hk => ?_, fun k hk => absurd hk (Nat.not_lt_zero k)⟩
  · obtain ⟨d1, d2, d3, d4, d5, d6, d7⟩ := d k hk
    exact ⟨(p _ _ (by omega) (by omega)).trans d1, (p _ _ (by omega) (by omega)).trans d2, (p _ _ (by omega) (by omega)).trans d3, (h1 _ (by omega) _).trans d4, (h1 _ (by omega) _).trans d5, (h1 _ (by omega) _).trans d6, (h1 _ (by omega) _).trans d7⟩
  · by_cases q : k = i
    · subst q; exact ⟨h3, h4, h5⟩
    · obtain ⟨f1, f2, f3⟩ := e k (by omega)
      exact ⟨(h2 _ _ (by omega) (by omega)).trans f1, (h1 _ (by omega) _).trans f2, (h1 _ (by omega) _).trans f3⟩
theorem TI.cell {t i : Nat} {σ σ' : zS2} {π π' : zP2} (h : TI t i 0 0 σ π) (hi : i < 12) (h1 : ∀ b, b ≠ t + 8 + i → ∀ j, σ' b j = σ b j) (h2 : ∀ b j, b ≠ t + 8 + i → ¬ (b = t + 3 ∧ j = i) → ¬ (b = t + 4 ∧ j = i) → π' b j = π b j) (h3 : π' (t + 3) i = some (t + 8 + i)) (h4 : π' (t + 4) i = some (t + 8 + i)) (h5 : π' (t + 8 + i) 1 = some (t + 1)) (h6 : σ' (t + 8 + i) 0 = nI i) (h7 : σ' (t + 8 + i) 2 = 0) (h8 : σ' (t + 8 + i) 3 = 0) (h9 : σ' (t + 8 + i) 4 = 0) : TI t (i + 1) 0 0 σ' π' := by
  obtain ⟨⟨a1, a2, a3, a4, a5, a6⟩, ⟨b1, b2, b3⟩, ⟨c1, c2, c3⟩, d, e, f⟩ := h
  have p : ∀ b j, b ≠ t + 8 + i → b ≠ t + 3 → b ≠ t + 4 → π' b j = π b j := fun b j q1 q2 q3 => h2 b j q1 (fun z => q2 z.1) (fun z => q3 z.1)
  refine ⟨⟨(p _ _ (by omega) (by omega) (by omega)).trans a1, (p _ _ (by omega) (by omega) (by omega)).trans a2, (p _ _ (by omega) (by omega) (by omega)).trans a3, (p _ _ (by omega) (by omega) (by omega)).trans a4, (p _ _ (by omega) (by omega) (by omega)).trans a5, (p _ _ (by omega) (by omega) (by omega)).trans a6⟩, ⟨(h1 _ (by omega) _).trans b1, (h1 _ (by omega) _).trans b2, (h1 _ (by omega) _).trans b3⟩, ⟨(p _ _ (by omega) (by omega) (by omega)).trans c1, (h1 _ (by omega) _).trans c2, (h1 _ (by omega) _).trans c3⟩, fun k hk => ?_, fun k hk => absurd hk (Nat.not_lt_zero k), fun k hk => absurd hk (Nat.not_lt_zero k)⟩
  by_cases q : k = i
  · subst q; exact ⟨h3, h4, h5, h6, h7, h8, h9⟩
  · obtain ⟨d1, d2, d3, d4, d5, d6, d7⟩ := d k (by omega)
    exact ⟨(h2 _ _ (by omega) (by omega) (by omega)).trans d1, (h2 _ _ (by omega) (by omega) (by omega)).trans d2, (p _ _ (by omega) (by omega) (by omega)).trans d3, (h1 _ (by omega) _).trans d4, (h1 _ (by omega) _).trans d5, (h1 _ (by omega) _).trans d6, (h1 _ (by omega) _).trans d7⟩
theorem FT.mv {t : Nat} {σ σ1 σ2 : zS2} {π π1 π2 : zP2} {g g1 g2 : zG2} (h : FT t σ σ1 π π1 g g1) (h2 : ∀ b, b < t → ∀ j, σ2 b j = σ1 b j ∧ π2 b j = π1 b j ∧ g2 b j = g1 b j) : FT t σ σ2 π π2 g g2 := fun b hb j =>
  ⟨(h2 b hb j).1.trans (h b hb j).1, (h2 b hb j).2.1.trans (h b hb j).2.1, (h2 b hb j).2.2.trans (h b hb j).2.2⟩
theorem n2_o {b x : Nat} (h : ¬ x = b) (π : zP2) (j : Nat) : n2 b π x j = π x j := if_neg h
set_option maxRecDepth 100000 in
set_option maxHeartbeats 4000000 in
theorem c_X6_init {l : Launch} {Z : zZ} (hZ : zSt l Z) {μ : zMem} {σ : zS2} {π : zP2} {g : zG2} {t : Nat} (ht : zK μ t = 6 + 8) (hN : zN μ = t + 1) : zCt l Z mX6_init 1 29 210 [.ref t] (zA4 μ σ π g) (fun r μ' => r = none ∧ ∃ σ' π' g', μ' = zA4 (zals μ (tl 12 5 5)) σ' π' g' ∧ TI t 12 5 5 σ' π' ∧ FT t σ σ' π π' g g') := by
  refine zCt_of hZ mpX6_init (Nat.le_of_ble_eq_true rfl) (L := [some (.ref t), none, none]) rfl (fun τ hY => ?_)
  have hT := hY.1
  have kt : ∀ l, zK (zals μ l) t = 6 + 8 := fun l => (zals_o l μ t (by omega)).1.trans ht
  have ka : ∀ {l p x}, l[p]? = some x → zK (zals μ l) (t + 1 + p) = x.1 ∧ zL (zals μ l) (t + 1 + p) = x.2 := fun {l p x} h => by
    have := zals_at l μ p x h
    rw [hN] at this
    exact this
  have lenN : ∀ {l : List (Nat × Nat)} {m b : Nat}, l.length = m → t + 1 + m = b → zN μ + l.length = b := fun h1 h2 => by rw [hN, h1]; exact h2
  have loopS : ∀ n i, i + n = 5 → ∀ σ1 π1 g1, TI t 12 5 i σ1 π1 → FT t σ σ1 π π1 g g1 → zJ τ (zFn τ (fun r μ' => r = none ∧ ∃ σ' π' g', μ' = zA4 (zals μ (tl 12 5 5)) σ' π' g' ∧ TI t 12 5 5 σ' π' ∧ FT t σ σ' π π' g g') 29 210) 149 [some (.ref t), some (.int (nI i)), none] [] (zA4 (zals μ (tl 12 5 i)) σ1 π1 g1) (24 + i) (140 + 14 * i) := by
    intro n
    induction n with
    | zero =>
      intro i hi σ1 π1 g1 h1 h2
      have : i = 5 := by omega
      subst this
      refine J_iload_n (i := 1) hT dX6_init_149 rfl rfl ?_
      refine J_iconst (v := 5) hT dX6_init_150 rfl ?_
      refine J_icmp_ge (tgt := 174) hT dX6_init_151 (by decide) (fun _ => ?_) (fun q => absurd (nI_le (a := 5) (b := 5) (by decide) (by decide)) q)
      exact J_vret hT dX6_init_174 rfl (⟨rfl, _, _, _, rfl, h1, h2⟩) (Nat.le_refl _) (Nat.le_refl _)
    | succ n ih =>
      intro i hi σ1 π1 g1 h1 h2
      obtain ⟨⟨a1, a2, a3, a4, a5, a6⟩, b1, b2, b3, b4, b5⟩ := id h1
      refine J_iload_n (i := 1) hT dX6_init_149 rfl rfl ?_
      refine J_iconst (v := 5) hT dX6_init_150 rfl ?_
      refine J_icmp_ge (tgt := 174) hT dX6_init_151 (by decide) (fun q => absurd q (Int32.not_le.mpr (nI_lt (a := i) (b := 5) (by omega) (by decide)))) (fun _ => ?_)
      refine J_aload_n (i := 0) hT dX6_init_154 rfl rfl ?_
      refine R_getP hT fX6_37 rfl dX6_init_155 (kt _) a5 ?_
      refine J_iload_n (i := 1) hT dX6_init_158 rfl rfl ?_
      refine N_new (ci := 4) (b := t + 25 + i) hT (by decide) dX6_init_159 kcX6_35 inX4 itX4 (by decide) (by first | omega | decide) (by show _ + 14 ≤ _; omega) (lenN (tl_len 12 5 i) (by omega)) ?_
      rw [tl_s]
      have hkn : zK (zals μ (tl 12 5 (i + 1))) (t + 25 + i) = 4 + 8 := by have := (ka (l := tl 12 5 (i + 1)) (tl_sv (Nat.lt_succ_self i))).1; rw [show t + 1 + (24 + i) = t + 25 + i by omega] at this; exact this
      have hka : zK (zals μ (tl 12 5 (i + 1))) (t + 6) = 6 ∧ zL (zals μ (tl 12 5 (i + 1))) (t + 6) = 5 := ka (l := tl 12 5 (i + 1)) (p := 5) (x := (6, 5)) (tl_p rfl)
      refine J_dup hT dX6_init_162 rfl ?_
      refine J_iload_n (i := 1) hT dX6_init_163 rfl rfl ?_
      refine J_callI hY dX6_init_164 mfX4_init rfl rfl miX4_init kX6_59 (c_X4_init hZ hkn (v := nI i)) rfl (by decide) rfl rfl (Nat.le_of_ble_eq_true rfl) (by omega) (by show 140 + 14 * i + 14 + 0 ≤ 210; omega) (fun r1 μ1 hq1 => ?_)
      obtain ⟨rfl, rfl⟩ := hq1
      show zJ _ _ _ _ [.ref (t + 25 + i), .int (nI i), .ref (t + 6)] _ _ _
      refine R_aast hT dX6_init_167 hka.1 (by decide) hkn hka.2 (by first | exact ⟨rfl, by decide⟩ | exact zix_nI (by omega) (by decide) | assumption) ?_
      refine S_iinc1 hT dX6_init_168 (nI_inc _) rfl ?_
      refine J_goto (tgt := 149) hT dX6_init_171 (by decide) ?_
      refine ih (i + 1) (by omega) _ _ _ (h1.svc (by omega) (fun b q j => by simp [zu, n1, q]) (fun b j q q2 => by simp [zup, n2, q]; intro z1 z2; exact absurd ⟨z1, z2⟩ q2) (zup_eq _ _ _ _) (zu_eq _ _ _ _) (fun j q1 q2 => ?_)) (h2.mv ?_)
      · have q : ∀ j, 1 ≤ j → j ≤ 13 → (j = 1 ∨ j = 2 ∨ j = 3 ∨ j = 4 ∨ j = 5 ∨ j = 6 ∨ j = 7 ∨ j = 8 ∨ j = 9 ∨ j = 10 ∨ j = 11 ∨ j = 12 ∨ j = 13) := fun j _ _ => by omega
        rcases q j q1 q2 with rfl | rfl | rfl | rfl | rfl | rfl | rfl | rfl | rfl | rfl | rfl | rfl | rfl <;> simp [zu, svD]
      · intro b hb j
        have q1 : b ≠ t + 25 + i := by omega
        have q2 : b ≠ t + 6 := by omega
        exact ⟨by simp [zu, n1, q1], by simp [zup, n2, q1, q2], by simp [n3, q1]⟩
  have loopR : ∀ n i, i + n = 5 → ∀ σ1 π1 g1, TI t 12 i 0 σ1 π1 → FT t σ σ1 π π1 g g1 → zJ τ (zFn τ (fun r μ' => r = none ∧ ∃ σ' π' g', μ' = zA4 (zals μ (tl 12 5 5)) σ' π' g' ∧ TI t 12 5 5 σ' π' ∧ FT t σ σ' π π' g g') 29 210) 123 [some (.ref t), some (.int (nI i)), none] [] (zA4 (zals μ (tl 12 i 0)) σ1 π1 g1) (19 + i) (130 + 2 * i) := by
    intro n
    induction n with
    | zero =>
      intro i hi σ1 π1 g1 h1 h2
      have : i = 5 := by omega
      subst this
      refine J_iload_n (i := 1) hT dX6_init_123 rfl rfl ?_
      refine J_iconst (v := 5) hT dX6_init_124 rfl ?_
      refine J_icmp_ge (tgt := 147) hT dX6_init_125 (by decide) (fun _ => ?_) (fun q => absurd (nI_le (a := 5) (b := 5) (by decide) (by decide)) q)
      refine J_iconst (v := 0) hT dX6_init_147 rfl ?_
      refine S_istore1 hT dX6_init_148 rfl rfl ?_
      exact loopS 5 0 rfl _ _ _ h1 h2
    | succ n ih =>
      intro i hi σ1 π1 g1 h1 h2
      obtain ⟨⟨a1, a2, a3, a4, a5, a6⟩, b1, b2, b3, b4, b5⟩ := id h1
      refine J_iload_n (i := 1) hT dX6_init_123 rfl rfl ?_
      refine J_iconst (v := 5) hT dX6_init_124 rfl ?_
      refine J_icmp_ge (tgt := 147) hT dX6_init_125 (by decide) (fun q => absurd q (Int32.not_le.mpr (nI_lt (a := i) (b := 5) (by omega) (by decide)))) (fun _ => ?_)
      refine J_aload_n (i := 0) hT dX6_init_128 rfl rfl ?_
      refine R_getP hT fX6_31 rfl dX6_init_129 (kt _) a4 ?_
      refine J_iload_n (i := 1) hT dX6_init_132 rfl rfl ?_
      refine N_new (ci := 3) (b := t + 20 + i) hT (by decide) dX6_init_133 kcX6_29 inX3 itX3 (by decide) (by first | omega | decide) (by show _ + 2 ≤ _; omega) (lenN (tl_len 12 i 0) (by omega)) ?_
      rw [tl_r]
      have hkn : zK (zals μ (tl 12 (i + 1) 0)) (t + 20 + i) = 3 + 8 := by have := (ka (l := tl 12 (i + 1) 0) (tl_rd (Nat.lt_succ_self i))).1; rw [show t + 1 + (19 + i) = t + 20 + i by omega] at this; exact this
      have hka : zK (zals μ (tl 12 (i + 1) 0)) (t + 5) = 5 ∧ zL (zals μ (tl 12 (i + 1) 0)) (t + 5) = 5 := ka (l := tl 12 (i + 1) 0) (p := 4) (x := (5, 5)) (tl_p rfl)
      refine J_dup hT dX6_init_136 rfl ?_
      refine J_callI hY dX6_init_137 mfX3_init rfl rfl miX3_init kX6_58 (c_X3_init hZ hkn) rfl (by decide) rfl rfl (Nat.le_of_ble_eq_true rfl) (by omega) (by show 130 + 2 * i + 2 + 0 ≤ 210; omega) (fun r1 μ1 hq1 => ?_)
      obtain ⟨rfl, rfl⟩ := hq1
      show zJ _ _ _ _ [.ref (t + 20 + i), .int (nI i), .ref (t + 5)] _ _ _
      refine R_aast hT dX6_init_140 hka.1 (by decide) hkn hka.2 (by first | exact ⟨rfl, by decide⟩ | exact zix_nI (by omega) (by decide) | assumption) ?_
      refine S_iinc1 hT dX6_init_141 (nI_inc _) rfl ?_
      refine J_goto (tgt := 123) hT dX6_init_144 (by decide) ?_
      refine ih (i + 1) (by omega) _ _ _ (h1.rd (by omega) (fun b q j => by simp [zu, n1, q]) (fun b j q q2 => by simp [zup, n2, q]; intro z1 z2; exact absurd ⟨z1, z2⟩ q2) (zup_eq _ _ _ _) (by simp [zu]) (zu_eq _ _ _ _)) (h2.mv ?_)
      · intro b hb j
        have q1 : b ≠ t + 20 + i := by omega
        have q2 : b ≠ t + 5 := by omega
        exact ⟨by simp [zu, n1, q1], by simp [zup, n2, q1, q2], by simp [n3, q1]⟩
  have loopC : ∀ n i, i + n = 12 → ∀ σ1 π1 g1, TI t i 0 0 σ1 π1 → FT t σ σ1 π π1 g g1 → zJ τ (zFn τ (fun r μ' => r = none ∧ ∃ σ' π' g', μ' = zA4 (zals μ (tl 12 5 5)) σ' π' g' ∧ TI t 12 5 5 σ' π' ∧ FT t σ σ' π π' g g') 29 210) 82 [some (.ref t), some (.int (nI i)), none] [] (zA4 (zals μ (tl i 0 0)) σ1 π1 g1) (7 + i) (70 + 5 * i) := by
    intro n
    induction n with
    | zero =>
      intro i hi σ1 π1 g1 h1 h2
      have : i = 12 := by omega
      subst this
      refine J_iload_n (i := 1) hT dX6_init_82 rfl rfl ?_
      refine J_bipush (v := 12) hT dX6_init_83 rfl ?_
      refine J_icmp_ge (tgt := 121) hT dX6_init_85 (by decide) (fun _ => ?_) (fun q => absurd (nI_le (a := 12) (b := 12) (by decide) (by decide)) q)
      refine J_iconst (v := 0) hT dX6_init_121 rfl ?_
      refine S_istore1 hT dX6_init_122 rfl rfl ?_
      exact loopR 5 0 rfl _ _ _ h1 h2
    | succ n ih =>
      intro i hi σ1 π1 g1 h1 h2
      obtain ⟨⟨a1, a2, a3, a4, a5, a6⟩, b1, b2, b3, b4, b5⟩ := id h1
      refine J_iload_n (i := 1) hT dX6_init_82 rfl rfl ?_
      refine J_bipush (v := 12) hT dX6_init_83 rfl ?_
      refine J_icmp_ge (tgt := 121) hT dX6_init_85 (by decide) (fun q => absurd q (Int32.not_le.mpr (nI_lt (a := i) (b := 12) (by omega) (by decide)))) (fun _ => ?_)
      refine N_new (ci := 0) (b := t + 8 + i) hT (by decide) dX6_init_88 kcX6_20 inX0 itX0 (by decide) (by first | omega | decide) (by show _ + 5 ≤ _; omega) (lenN (tl_len i 0 0) (by omega)) ?_
      rw [tl_c]
      have hkn : zK (zals μ (tl (i + 1) 0 0)) (t + 8 + i) = 0 + 8 := by have := (ka (l := tl (i + 1) 0 0) (tl_cell (Nat.lt_succ_self i))).1; rw [show t + 1 + (7 + i) = t + 8 + i by omega] at this; exact this
      have hka : zK (zals μ (tl (i + 1) 0 0)) (t + 3) = 4 ∧ zL (zals μ (tl (i + 1) 0 0)) (t + 3) = 12 := ka (l := tl (i + 1) 0 0) (p := 2) (x := (4, 12)) (tl_p rfl)
      have hkb : zK (zals μ (tl (i + 1) 0 0)) (t + 4) = 4 ∧ zL (zals μ (tl (i + 1) 0 0)) (t + 4) = 12 := ka (l := tl (i + 1) 0 0) (p := 3) (x := (4, 12)) (tl_p rfl)
      have qt : ¬ t = t + 8 + i := by omega
      refine J_dup hT dX6_init_91 rfl ?_
      refine J_iload_n (i := 1) hT dX6_init_92 rfl rfl ?_
      refine J_aload_n (i := 0) hT dX6_init_93 rfl rfl ?_
      refine R_getP hT fX6_14 rfl dX6_init_94 (kt _) ((n2_o qt _ _).trans a1) ?_
      refine J_callI hY dX6_init_97 mfX0_init rfl rfl miX0_init kX6_55 (c_X0_init (a := t + 8 + i) (f := t + 1) hZ hkn (v := nI i)) rfl (by decide) rfl rfl (Nat.le_of_ble_eq_true rfl) (by omega) (by show 70 + 5 * i + 5 + 0 ≤ 210; omega) (fun r1 μ1 hq1 => ?_)
      obtain ⟨rfl, rfl⟩ := hq1
      show zJ _ _ _ _ [.ref (t + 8 + i)] _ _ _
      refine S_astore2 hT dX6_init_100 rfl rfl ?_
      refine J_aload_n (i := 0) hT dX6_init_101 rfl rfl ?_
      refine R_getP hT fX6_22 rfl dX6_init_102 (kt _) ((zup_n _ _ _ _ (fun q => qt q.1)).trans ((n2_o qt _ _).trans a2)) ?_
      refine J_iload_n (i := 1) hT dX6_init_105 rfl rfl ?_
      refine J_aload_n (i := 2) hT dX6_init_106 rfl rfl ?_
      refine R_aast hT dX6_init_107 hka.1 (by decide) hkn hka.2 (by first | exact ⟨rfl, by decide⟩ | exact zix_nI (by omega) (by decide) | assumption) ?_
      refine J_aload_n (i := 0) hT dX6_init_108 rfl rfl ?_
      refine R_getP hT fX6_26 rfl dX6_init_109 (kt _) ((zup_n _ _ _ _ (fun q => by omega)).trans ((zup_n _ _ _ _ (fun q => qt q.1)).trans ((n2_o qt _ _).trans a3))) ?_
      refine J_iload_n (i := 1) hT dX6_init_112 rfl rfl ?_
      refine J_aload_n (i := 2) hT dX6_init_113 rfl rfl ?_
      refine R_aast hT dX6_init_114 hkb.1 (by decide) hkn hkb.2 (by first | exact ⟨rfl, by decide⟩ | exact zix_nI (by omega) (by decide) | assumption) ?_
      refine S_iinc1 hT dX6_init_115 (nI_inc _) rfl ?_
      refine J_goto (tgt := 82) hT dX6_init_118 (by decide) ?_
      refine J_L (L' := [_, _, none]) (zsub_keep (zsub_keep (zsub_drop zsub_nil))) ?_
      refine ih (i + 1) (by omega) _ _ _ (h1.cell (by omega) (fun b q j => by simp [zu, n1, q]) (fun b j q q2 q3 => by simp [zup, n2, q, q2, q3]) (by simp [zup]) (zup_eq _ _ _ _) (((zup_n _ _ _ _ (fun q => by omega)).trans (zup_n _ _ _ _ (fun q => by omega))).trans (zup_eq _ _ _ _)) (zu_eq _ _ _ _) (by simp [zu]) (by simp [zu]) (by simp [zu])) (h2.mv ?_)
      · intro b hb j
        have q1 : b ≠ t + 8 + i := by omega
        have q2 : b ≠ t + 3 := by omega
        have q3 : b ≠ t + 4 := by omega
        exact ⟨by simp [zu, n1, q1], by simp [zup, n2, q1, q2, q3], by simp [n3, q1]⟩
  refine J_mu (show zA4 μ σ π g = zA4 (zals μ []) σ π g from rfl) ?_
  refine J_aload_n (i := 0) hT dX6_init_0 rfl rfl ?_
  refine J_objInit hT dX6_init_1 kX6_3 oi1 oi2 rfl (by decide) ?_
  refine J_aload_n (i := 0) hT dX6_init_4 rfl rfl ?_
  refine N_new (ci := 1) (b := t + 1) hT (by decide) dX6_init_5 kcX6_9 inX1 itX1 (by decide) (by decide) (by decide) (lenN rfl rfl) ?_
  refine J_dup hT dX6_init_8 rfl ?_
  refine J_iconst (v := 1) hT dX6_init_9 rfl ?_
  refine N_newI (b := t + 2) (kd := 0) (n := 1) hT (Or.inl ⟨rfl, rfl⟩) dX6_init_10 cw_ai rfl (by decide) (by decide) (by decide) (lenN rfl rfl) ?_
  refine J_dup hT dX6_init_12 rfl ?_
  refine J_iconst (v := 0) hT dX6_init_13 rfl ?_
  refine J_iconst (v := 0) hT dX6_init_14 rfl ?_
  refine R_iast hT dX6_init_15 (ka (p := 1) (x := (0, 1)) rfl).1 (ka (p := 1) (x := (0, 1)) rfl).2 (by first | exact ⟨rfl, by decide⟩ | exact zix_nI (by omega) (by decide) | assumption) ?_
  refine J_iconst (v := 0) hT dX6_init_16 rfl ?_
  refine J_callI hY dX6_init_17 mfX1_init rfl rfl miX1_init kX6_11 (c_X1_init (a := t + 1) (f := t + 2) hZ (ka (p := 0) (x := (9, 0)) rfl).1 (v := 0)) rfl (by decide) rfl rfl (Nat.le_of_ble_eq_true rfl) (by decide) (by decide) (fun r1 μ1 hq1 => ?_)
  obtain ⟨rfl, rfl⟩ := hq1
  show zJ _ _ _ _ [.ref (t + 1), .ref t] _ _ _
  refine C_putP hT fX6_14 (Or.inr ⟨rfl, rfl, wX6_14⟩) rfl dX6_init_20 (kt _) ?_
  refine J_aload_n (i := 0) hT dX6_init_23 rfl rfl ?_
  refine J_bipush (v := 12) hT dX6_init_24 rfl ?_
  refine N_newQ (b := t + 3) (kd := 4) (n := 12) hT (by decide) (by decide) dX6_init_26 kcX6_20 rfl (by decide) (by decide) (by decide) (lenN rfl rfl) ?_
  refine C_putP hT fX6_22 (Or.inr ⟨rfl, rfl, wX6_22⟩) rfl dX6_init_29 (kt _) ?_
  refine J_aload_n (i := 0) hT dX6_init_32 rfl rfl ?_
  refine J_bipush (v := 12) hT dX6_init_33 rfl ?_
  refine N_newQ (b := t + 4) (kd := 4) (n := 12) hT (by decide) (by decide) dX6_init_35 kcX6_20 rfl (by decide) (by decide) (by decide) (lenN rfl rfl) ?_
  refine C_putP hT fX6_26 (Or.inr ⟨rfl, rfl, wX6_26⟩) rfl dX6_init_38 (kt _) ?_
  refine J_aload_n (i := 0) hT dX6_init_41 rfl rfl ?_
  refine J_iconst (v := 5) hT dX6_init_42 rfl ?_
  refine N_newQ (b := t + 5) (kd := 5) (n := 5) hT (by decide) (by decide) dX6_init_43 kcX6_29 rfl (by decide) (by decide) (by decide) (lenN rfl rfl) ?_
  refine C_putP hT fX6_31 (Or.inr ⟨rfl, rfl, wX6_31⟩) rfl dX6_init_46 (kt _) ?_
  refine J_aload_n (i := 0) hT dX6_init_49 rfl rfl ?_
  refine J_iconst (v := 5) hT dX6_init_50 rfl ?_
  refine N_newQ (b := t + 6) (kd := 6) (n := 5) hT (by decide) (by decide) dX6_init_51 kcX6_35 rfl (by decide) (by decide) (by decide) (lenN rfl rfl) ?_
  refine C_putP hT fX6_37 (Or.inr ⟨rfl, rfl, wX6_37⟩) rfl dX6_init_54 (kt _) ?_
  refine J_aload_n (i := 0) hT dX6_init_57 rfl rfl ?_
  refine J_bipush (v := 33) hT dX6_init_58 rfl ?_
  refine N_newI (b := t + 7) (kd := 0) (n := 33) hT (Or.inl ⟨rfl, rfl⟩) dX6_init_60 cw_ai rfl (by decide) (by decide) (by decide) (lenN rfl rfl) ?_
  refine C_putP hT fX6_41 (Or.inr ⟨rfl, rfl, wX6_41⟩) rfl dX6_init_62 (kt _) ?_
  refine J_aload_n (i := 0) hT dX6_init_65 rfl rfl ?_
  refine J_iconst (v := 0) hT dX6_init_66 rfl ?_
  refine C_putI hT fX6_45 (Or.inr ⟨rfl, rfl, wX6_45⟩) rfl dX6_init_67 (kt _) ?_
  refine J_aload_n (i := 0) hT dX6_init_70 rfl rfl ?_
  refine J_iconst (v := 0) hT dX6_init_71 rfl ?_
  refine C_putI hT fX6_49 (Or.inr ⟨rfl, rfl, wX6_49⟩) rfl dX6_init_72 (kt _) ?_
  refine J_aload_n (i := 0) hT dX6_init_75 rfl rfl ?_
  refine J_iconst (v := 0) hT dX6_init_76 rfl ?_
  refine C_putI hT fX6_52 (Or.inr ⟨rfl, rfl, wX6_52⟩) rfl dX6_init_77 (kt _) ?_
  refine J_iconst (v := 0) hT dX6_init_80 rfl ?_
  refine S_istore1 hT dX6_init_81 rfl rfl ?_
  refine loopC 12 0 rfl _ _ _ ⟨⟨by simp [zup, n2], by simp [zup, n2], by simp [zup, n2], by simp [zup, n2], by simp [zup, n2], by simp [zup, n2]⟩, ⟨by simp [zu], by simp [zu], by simp [zu]⟩, ⟨by simp [zup, n2], by simp [zu, n1], by simp [zu, n1]⟩, fun i hi => absurd hi (Nat.not_lt_zero i), fun i hi => absurd hi (Nat.not_lt_zero i), fun i hi => absurd hi (Nat.not_lt_zero i)⟩ (fun b hb j => ?_)
  have q0 : b ≠ t := by omega
  have q1 : b ≠ t + 1 := by omega
  have q2 : b ≠ t + 2 := by omega
  have q3 : b ≠ t + 3 := by omega
  have q4 : b ≠ t + 4 := by omega
  have q5 : b ≠ t + 5 := by omega
  have q6 : b ≠ t + 6 := by omega
  have q7 : b ≠ t + 7 := by omega
  exact ⟨by simp [zu, n1, q0, q1, q2, q3, q4, q5, q6, q7], by simp [zup, n2, q0, q1, q2, q3, q4, q5, q6, q7], by simp [n3, q1, q2, q3, q4, q5, q6, q7]⟩

