/-! ===== a fault is where no formula can go on ===== -/
theorem zPf.cl2 {σ σ1 : zS2} {π : zP2} {g : zG2} (h : zPf σ σ1) : zcl σ σ1 π π g g := fun b a1 _ j => ⟨h b j (by omega) (by omega), rfl, rfl⟩
/-- nothing has been told, or one step that can be taken back -/
def Or1 (n : Nat) (S : zS2) (n' : Nat) (S' : zS2) : Prop := (n' = n ∧ zq n S S') ∨ (n' = n + 1 ∧ n < 40 ∧ ∃ T, zq n S T ∧ stepV T n ∧ zq (n + 1) (doF T n).1 S')
theorem Did.or1 {n : Nat} {S : zS2} {w a b c : Int32} {ks : List Nat} {ref : Prop} {x : Int32} {n' : Nat} {S' : zS2} (h : Did n S w a b c ks ref x n' S') : Or1 n S n' S' := by
  rcases h with ⟨h1, h2, h3, h4⟩ | ⟨h1, h2, h3, h4, h5, h6⟩
  · exact Or.inl ⟨h3, h4⟩
  · exact Or.inr ⟨h3, h2, _, zq_trans (ly_q S n ks) (kpS_q _ _ _ _ _ _), h5.1, h6⟩
theorem Or1.from {n : Nat} {S T : zS2} {n' : Nat} {S' : zS2} (h : Or1 n T n' S') (q : zq n S T) : Or1 n S n' S' := by
  rcases h with ⟨h1, h2⟩ | ⟨h1, h2, X, h3, h4, h5⟩
  · exact Or.inl ⟨h1, zq_trans q h2⟩
  · exact Or.inr ⟨h1, h2, X, zq_trans q h3, h4, h5⟩
theorem KS_ri {n : Nat} {S : zS2} {w a b c : Int32} (h : KS n S w a b c) : RI (kpS S n w a b c) := h.2.2.2.1.1
/-- as many rounds as a step has -/
theorem KS_n {n : Nat} {S : zS2} {w a b c : Int32} (h : KS n S w a b c) : (doF (kpS S n w a b c) n).2 ≤ 12000 ∧ (w ≠ 10 → 1 ≤ (doF (kpS S n w a b c) n).2) ∧ (w = 10 → a.toNatClampNeg ≤ (doF (kpS S n w a b c) n).2) := by
  have k := kp_at S n w a b c
  have hv : stC (kpS S n w a b c) n ≤ 50 ∨ kpS S n w a b c 98 n ≠ 10 := by
    obtain ⟨kd, k1, k2, -, -, -, k6⟩ := stepV_kind h.1
    by_cases z : kd = 10
    · exact Or.inl (k6 z)
    · exact Or.inr (fun q => z ((nI_eq (b := 10) (by omega) (by decide)).mp (k2.symm.trans q)))
  have hn := doF_n (KS_ri h) h.2.2.1 hv
  rw [k.1] at hn
  have e : stC (kpS S n w a b c) n = a.toNatClampNeg := by unfold stC; rw [k.2.1]
  rw [e] at hn
  exact hn
theorem q_fault {l : Launch} {Z : zZ} {n L : Nat} {μ : zMem} {σ : zS2} {π : zP2} {g : zG2} {S : zS2} (hZ : zSt l Z) (h : PW n L μ σ π S) : zCt l Z mX8_fault 163 0 0 [.ref 0] (zA4 μ σ π g) (fun r μ' => r = some (.int (fltI (rdF S L) L)) ∧ ∃ σ', μ' = zA4 μ σ' π g ∧ PW n L μ σ' π S ∧ zPf σ σ') :=
  zCt_mono (c_X8_fault hZ h.cw h.tx) (fun r μ' q => by
    obtain ⟨q1, σ', q2, q3, q4, -⟩ := q
    exact ⟨by rw [q1, (dR0_ok (S := S) h.tx.2.1).1], σ', q2, h.to q4, q3⟩)
theorem did_102 {n : Nat} {S : zS2} {a : Int32} {ks : List Nat} {ref : Prop} {x : Int32} {n' : Nat} {S' : zS2} (h : Did n S 0 a 0 0 ks ref x n' S') : x ≠ -102 := by
  rcases h with ⟨-, h2, -⟩ | ⟨-, -, -, h4, h5, -⟩
  · rw [h2]; decide
  · have h6 := KS_n h5
    rw [h4]
    generalize (doF (kpS (ly S n ks) n 0 a 0 0) n).2 = d at h6 ⊢
    intro z
    have h7 := nI_pos (n := d) (by omega)
    rw [z] at h7
    exact h7 (by decide)
set_option maxRecDepth 100000 in
set_option maxHeartbeats 4000000 in
theorem c_L_isFault {l : Launch} {Z : zZ} (hZ : zSt l Z) (hO : zOps Z) (hX : zXs Z) (hN : zNs Z) (hSs : zSs Z) {μ : zMem} {σ : zS2} {π : zP2} {g : zG2} {n L m : Nat} {S : zS2} (h : PW n L μ σ π S) {a : Nat} (ha : 67 ≤ a ∧ a < 70 ∧ zK μ a = 0 ∧ zL μ a = 30) (hm : m ≤ 30) (hl : ∀ j, j < m → letB (σ a j) = true) : zCt l Z mL_isFault 175 6 76 [.ref 0, .ref a, .int (nI m)] (zA4 μ σ π g) (fun v μ' => v = some (.int 1) ∧ ∃ n' L' μ1 σ1 π1 g1 S', μ' = zA4 μ1 σ1 π1 g1 ∧ PW n' L' μ1 σ1 π1 S' ∧ zgr μ μ1 ∧ zcl σ σ1 π π1 g g1 ∧ Or1 n S n' S') := by
  refine zCt_of hZ mpL_isFault (Nat.le_of_ble_eq_true rfl) (L := [some (.ref 0), some (.ref a), some (.int (nI m)), none, none]) rfl (fun τ hY => ?_)
  have hT := hY.1
  refine J_aload_n (i := 0) hT dL_isFault_0 rfl rfl ?_
  refine J_aload_n (i := 1) hT dL_isFault_1 rfl rfl ?_
  refine J_iload_n (i := 2) hT dL_isFault_2 rfl rfl ?_
  refine J_callS hY dL_isFault_3 mfL_types mtL_types kL_105 (c_L_types hZ hSs h ⟨ha.1, ha.2.2⟩ hm hl) rfl (by decide) rfl rfl (Nat.le_of_ble_eq_true rfl) (by decide) (by decide) (fun r1 μ1 hq => ?_)
  obtain ⟨rfl, σ1, S1, rfl, hP1, hF1, hz1⟩ := hq
  have hc1 : zcl σ σ1 π π g g := hz1.cl
  have q1 : zq n S S1 := hF1.q
  show zJ _ _ _ _ (.int 1 :: _) _ _ _
  refine S_istore3 hT dL_isFault_6 rfl rfl ?_
  refine J_aload_n (i := 0) hT dL_isFault_7 rfl rfl ?_
  refine J_callV (ci := 8) hY dL_isFault_8 mfX8_fault miX8_fault msX8_fault kL_109 ⟨by decide, rfl⟩ hP1.cw.k0 (q_fault hZ hP1) rfl (by decide) rfl rfl (Nat.le_of_ble_eq_true rfl) (by decide) (by decide) (fun r1 μ1 hq => ?_)
  obtain ⟨rfl, σ2, rfl, hP2, hy2⟩ := hq
  have hc2 : zcl σ σ2 π π g g := hc1.tr hy2.cl2
  have hfl := flt_of (S := S1) hm
  show zJ _ _ _ _ (.int (fltI (rdF S1 m) m) :: _) _ _ _
  refine S_istore4 hT dL_isFault_11 rfl ?_
  generalize hFv : fltI (rdF S1 m) m = F at hfl ⊢
  rcases hfl with hF | ⟨q, hq, hF, hp1, hp2⟩
  · subst hF
    refine J_iload_n (i := 3) hT dL_isFault_13 rfl rfl ?_
    refine J_if_eq (tgt := 80) hT dL_isFault_14 (by decide) (fun q => absurd q ((by decide))) (fun _ => ?_)
    refine J_iload (i := 4) hT dL_isFault_17 rfl ?_
    refine J_iconst (v := -1) hT dL_isFault_19 rfl ?_
    refine J_icmp_lt (tgt := 80) hT dL_isFault_20 (by decide) (fun q => absurd q ((by decide))) (fun _ => ?_)
    refine J_iload (i := 4) hT dL_isFault_23 rfl ?_
    refine J_iload_n (i := 2) hT dL_isFault_25 rfl rfl ?_
    refine J_icmp_gt (tgt := 80) hT dL_isFault_26 (by decide) (fun q => absurd q ((fun z => absurd (Int32.lt_trans (Int32.lt_of_le_of_lt (nI_le (a := 0) (b := m) (Nat.zero_le m) (by omega)) z) (by decide : (-1 : Int32) < 0)) (Int32.lt_irrefl (a := 0))))) (fun _ => ?_)
    refine J_iload (i := 4) hT dL_isFault_29 rfl ?_
    refine J_iconst (v := -1) hT dL_isFault_31 rfl ?_
    refine J_icmp_ne (tgt := 39) hT dL_isFault_32 (by decide) (fun q => absurd (rfl) q) (fun _ => ?_)
    refine J_iconst (v := 1) hT dL_isFault_35 rfl ?_
    refine J_goto (tgt := 40) hT dL_isFault_36 (by decide) ?_
    refine J_aload_n (i := 0) hT dL_isFault_40 rfl rfl ?_
    refine J_bipush (v := 11) hT dL_isFault_41 rfl ?_
    refine J_callW hY dL_isFault_43 mfL_formula mtL_formula mwL_112 (l_formula hZ hO hX hN hP2 (by decide) hFv rfl) rfl (by decide) rfl rfl (Nat.le_of_ble_eq_true rfl) (by decide) (by decide) (fun r1 μ1 hq => ?_)
    obtain ⟨x, rfl, n3, L3, μ3, σ3, π3, g3, S3, rfl, hP3, hg3, hc3, hd3⟩ := hq
    show zJ _ _ _ _ (.int x :: _) _ _ _
    refine J_bipush (v := -102) hT dL_isFault_46 rfl ?_
    refine J_icmp_eq (tgt := 55) hT dL_isFault_48 (by decide) (fun q => absurd q (did_102 hd3)) (fun _ => ?_)
    refine J_iconst (v := 1) hT dL_isFault_51 rfl ?_
    refine J_goto (tgt := 56) hT dL_isFault_52 (by decide) ?_
    refine J_icmp_ne (tgt := 80) hT dL_isFault_56 (by decide) (fun q => absurd (rfl) q) (fun _ => ?_)
    refine J_iload (i := 4) hT dL_isFault_59 rfl ?_
    refine J_iconst (v := -1) hT dL_isFault_61 rfl ?_
    refine J_icmp_eq (tgt := 76) hT dL_isFault_62 (by decide) (fun _ => ?_) (fun q => absurd (rfl) q)
    refine J_iconst (v := 1) hT dL_isFault_76 rfl ?_
    refine J_goto (tgt := 81) hT dL_isFault_77 (by decide) ?_
    refine S_istore3 hT dL_isFault_81 rfl rfl ?_
    refine J_iload_n (i := 3) hT dL_isFault_82 rfl rfl ?_
    refine J_if_eq (tgt := 151) hT dL_isFault_83 (by decide) (fun q => absurd q ((by decide))) (fun _ => ?_)
    refine J_iload (i := 4) hT dL_isFault_86 rfl ?_
    refine J_if_lt (tgt := 151) hT dL_isFault_88 (by decide) (fun _ => ?_) (fun q => absurd ((by decide)) q)
    refine J_iload_n (i := 3) hT dL_isFault_151 rfl rfl ?_
    exact J_iret hT dL_isFault_152 rfl rfl (⟨rfl, n3, L3, μ3, σ3, π3, g3, S3, rfl, hP3, hg3, hc2.tr hc3, hd3.or1.from q1⟩) (by decide) (by decide)
  · subst hF
    have hq0 : ¬ nI q < -1 := fun z => by
      have := Int32.lt_trans z (by decide : (-1 : Int32) < 0)
      exact nI_pos (by omega) this
    have hqn : nI q ≠ -1 := nI_ne1 (by omega)
    refine J_iload_n (i := 3) hT dL_isFault_13 rfl rfl ?_
    refine J_if_eq (tgt := 80) hT dL_isFault_14 (by decide) (fun q => absurd q ((by decide))) (fun _ => ?_)
    refine J_iload (i := 4) hT dL_isFault_17 rfl ?_
    refine J_iconst (v := -1) hT dL_isFault_19 rfl ?_
    refine J_icmp_lt (tgt := 80) hT dL_isFault_20 (by decide) (fun q => absurd q (hq0)) (fun _ => ?_)
    refine J_iload (i := 4) hT dL_isFault_23 rfl ?_
    refine J_iload_n (i := 2) hT dL_isFault_25 rfl rfl ?_
    refine J_icmp_gt (tgt := 80) hT dL_isFault_26 (by decide) (fun q => absurd q (nI_nlt hq (by omega))) (fun _ => ?_)
    refine J_iload (i := 4) hT dL_isFault_29 rfl ?_
    refine J_iconst (v := -1) hT dL_isFault_31 rfl ?_
    refine J_icmp_ne (tgt := 39) hT dL_isFault_32 (by decide) (fun _ => ?_) (fun q => absurd q (hqn))
    refine J_iconst (v := 0) hT dL_isFault_39 rfl ?_
    refine J_aload_n (i := 0) hT dL_isFault_40 rfl rfl ?_
    refine J_bipush (v := 11) hT dL_isFault_41 rfl ?_
    refine J_callW hY dL_isFault_43 mfL_formula mtL_formula mwL_112 (l_formula_no hZ hX hN hP2 (by decide) (by rw [hFv]; exact hqn)) rfl (by decide) rfl rfl (Nat.le_of_ble_eq_true rfl) (by decide) (by decide) (fun r1 μ1 hq => ?_)
    obtain ⟨rfl, μ3, σ3, π3, g3, rfl, hC3, hg3, hc3⟩ := hq
    have hP3 : PW n m μ3 σ3 π3 S1 := hP2.to hC3
    have hcc3 : zcl σ σ3 π π3 g g3 := hc2.tr hc3
    have hn3 := h.cw.nn
    have hs3 : ∀ j, σ3 a j = σ a j := fun j => (hcc3 a ha.1 ha.2.1 j).1
    have hrow3 : 67 ≤ a ∧ zK μ3 a = 0 ∧ zL μ3 a = 30 := ⟨ha.1, (hg3.2 a (by omega)).1.trans ha.2.2.1, (hg3.2 a (by omega)).2.trans ha.2.2.2⟩
    show zJ _ _ _ _ (.int (-102) :: _) _ _ _
    refine J_bipush (v := -102) hT dL_isFault_46 rfl ?_
    refine J_icmp_eq (tgt := 55) hT dL_isFault_48 (by decide) (fun _ => ?_) (fun q => absurd (rfl) q)
    refine J_iconst (v := 0) hT dL_isFault_55 rfl ?_
    refine J_icmp_ne (tgt := 80) hT dL_isFault_56 (by decide) (fun q => absurd (rfl) q) (fun _ => ?_)
    refine J_iload (i := 4) hT dL_isFault_59 rfl ?_
    refine J_iconst (v := -1) hT dL_isFault_61 rfl ?_
    refine J_icmp_eq (tgt := 76) hT dL_isFault_62 (by decide) (fun q => absurd q (hqn)) (fun _ => ?_)
    refine J_aload_n (i := 0) hT dL_isFault_65 rfl rfl ?_
    refine J_bipush (v := 12) hT dL_isFault_66 rfl ?_
    refine J_callW hY dL_isFault_68 mfL_formula mtL_formula mwL_112 (l_formula_12 hZ hX hN hP3) rfl (by decide) rfl rfl (Nat.le_of_ble_eq_true rfl) (by decide) (by decide) (fun r1 μ1 hq => ?_)
    obtain ⟨rfl, rfl⟩ := hq
    show zJ _ _ _ _ (.int (-101) :: _) _ _ _
    refine J_bipush (v := -101) hT dL_isFault_71 rfl ?_
    refine J_icmp_ne (tgt := 80) hT dL_isFault_73 (by decide) (fun q => absurd (rfl) q) (fun _ => ?_)
    refine J_iconst (v := 1) hT dL_isFault_76 rfl ?_
    refine J_goto (tgt := 81) hT dL_isFault_77 (by decide) ?_
    refine S_istore3 hT dL_isFault_81 rfl rfl ?_
    refine J_iload_n (i := 3) hT dL_isFault_82 rfl rfl ?_
    refine J_if_eq (tgt := 151) hT dL_isFault_83 (by decide) (fun q => absurd q ((by decide))) (fun _ => ?_)
    refine J_iload (i := 4) hT dL_isFault_86 rfl ?_
    refine J_if_lt (tgt := 151) hT dL_isFault_88 (by decide) (fun q => absurd q (nI_pos (by omega))) (fun _ => ?_)
    refine J_aload_n (i := 0) hT dL_isFault_91 rfl rfl ?_
    refine J_aload_n (i := 1) hT dL_isFault_92 rfl rfl ?_
    refine J_iload (i := 4) hT dL_isFault_93 rfl ?_
    refine J_callS hY dL_isFault_95 mfL_types mtL_types kL_105 (c_L_types hZ hSs hP3 hrow3 (Nat.le_trans hq hm) (fun j hj => by rw [hs3 j]; exact hl j (by omega))) rfl (by decide) rfl rfl (Nat.le_of_ble_eq_true rfl) (by decide) (by decide) (fun r1 μ1 hq => ?_)
    obtain ⟨rfl, σ4, S4, rfl, hP4, hF4, hz4⟩ := hq
    have hc4 : zcl σ σ4 π π3 g g3 := hcc3.tr hz4.cl
    have q4 : zq n S S4 := zq_trans q1 hF4.q
    have hl4 : ∀ j, j < q → S4 68 j = S1 68 j := fun j hj => (hF4.2 j hj).trans ((hs3 j).trans (hF1.2 j (by omega)).symm)
    have hf4 := hp1 S4 hl4
    show zJ _ _ _ _ (.int 1 :: _) _ _ _
    refine J_if_eq (tgt := 149) hT dL_isFault_98 (by decide) (fun q => absurd q ((by decide))) (fun _ => ?_)
    refine J_aload_n (i := 0) hT dL_isFault_101 rfl rfl ?_
    refine J_callV (ci := 8) hY dL_isFault_102 mfX8_fault miX8_fault msX8_fault kL_109 ⟨by decide, rfl⟩ hP4.cw.k0 (q_fault hZ hP4) rfl (by decide) rfl rfl (Nat.le_of_ble_eq_true rfl) (by decide) (by decide) (fun r1 μ1 hq => ?_)
    obtain ⟨rfl, σ5, rfl, hP5, hy5⟩ := hq
    have hc5 : zcl σ σ5 π π3 g g3 := hc4.tr hy5.cl2
    show zJ _ _ _ _ (.int (fltI (rdF S4 q) q) :: _) _ _ _
    have tl : ∀ σ6 : zS2, PW n q μ3 σ6 π3 S4 → zcl σ σ6 π π3 g g3 → zJ τ (zFn τ (fun v μ' => v = some (.int 1) ∧ ∃ n' L' μ1 σ1 π1 g1 S', μ' = zA4 μ1 σ1 π1 g1 ∧ PW n' L' μ1 σ1 π1 S' ∧ zgr μ μ1 ∧ zcl σ σ1 π π1 g g1 ∧ Or1 n S n' S') 6 76) 118 [some (.ref 0), some (.ref a), some (.int (nI m)), some (.int 1), some (.int (nI q))] [] (zA4 μ3 σ6 π3 g3) (0 + 3 + 3) (0 + 38 + 38) := by
      intro σ6 hP6 hc6
      by_cases hqm : q = m
      · refine J_iload (i := 4) hT dL_isFault_118 rfl ?_
        refine J_iload_n (i := 2) hT dL_isFault_120 rfl rfl ?_
        refine J_icmp_eq (tgt := 145) hT dL_isFault_121 (by decide) (fun _ => ?_) (fun q => absurd ((by rw [hqm])) q)
        refine J_iconst (v := 1) hT dL_isFault_145 rfl ?_
        refine J_goto (tgt := 150) hT dL_isFault_146 (by decide) ?_
        refine S_istore3 hT dL_isFault_150 rfl rfl ?_
        refine J_iload_n (i := 3) hT dL_isFault_151 rfl rfl ?_
        exact J_iret hT dL_isFault_152 rfl rfl (⟨rfl, n, q, μ3, σ6, π3, g3, S4, rfl, hP6, hg3, hc6, Or.inl ⟨rfl, q4⟩⟩) (by decide) (by decide)
      · have hs6 : ∀ j, σ6 a j = σ a j := fun j => (hc6 a ha.1 ha.2.1 j).1
        refine J_iload (i := 4) hT dL_isFault_118 rfl ?_
        refine J_iload_n (i := 2) hT dL_isFault_120 rfl rfl ?_
        refine J_icmp_eq (tgt := 145) hT dL_isFault_121 (by decide) (fun q => absurd q ((fun z => hqm ((nI_eq (by omega) (by omega)).mp z)))) (fun _ => ?_)
        refine J_aload_n (i := 0) hT dL_isFault_124 rfl rfl ?_
        refine J_aload_n (i := 1) hT dL_isFault_125 rfl rfl ?_
        refine J_iload (i := 4) hT dL_isFault_126 rfl ?_
        refine J_iconst (v := 1) hT dL_isFault_128 rfl ?_
        refine J_iadd hT dL_isFault_129 ?_
        refine J_topil (nI_1 q) ?_
        refine J_callS hY dL_isFault_130 mfL_types mtL_types kL_105 (c_L_types hZ hSs hP6 hrow3 (show q + 1 ≤ 30 by omega) (fun j hj => by rw [hs6 j]; exact hl j (by omega))) rfl (by decide) rfl rfl (Nat.le_of_ble_eq_true rfl) (by decide) (by decide) (fun r1 μ1 hq => ?_)
        obtain ⟨rfl, σ7, S7, rfl, hP7, hF7, hz7⟩ := hq
        have hc7 : zcl σ σ7 π π3 g g3 := hc6.tr hz7.cl
        have q7 : zq n S S7 := zq_trans q4 hF7.q
        have hl7 : ∀ j, j < q + 1 → S7 68 j = S1 68 j := fun j hj => (hF7.2 j hj).trans ((hs6 j).trans (hF1.2 j (by omega)).symm)
        have hv7 := hp2 (by omega) S7 hl7
        show zJ _ _ _ _ (.int 1 :: _) _ _ _
        refine J_if_eq (tgt := 149) hT dL_isFault_133 (by decide) (fun q => absurd q ((by decide))) (fun _ => ?_)
        refine J_aload_n (i := 0) hT dL_isFault_136 rfl rfl ?_
        refine J_callV (ci := 8) hY dL_isFault_137 mfX8_fault miX8_fault msX8_fault kL_109 ⟨by decide, rfl⟩ hP7.cw.k0 (q_fault hZ hP7) rfl (by decide) rfl rfl (Nat.le_of_ble_eq_true rfl) (by decide) (by decide) (fun r1 μ1 hq => ?_)
        obtain ⟨rfl, σ8, rfl, hP8, hy8⟩ := hq
        show zJ _ _ _ _ (.int (fltI (rdF S7 (q + 1)) (q + 1)) :: _) _ _ _
        refine J_iload (i := 4) hT dL_isFault_140 rfl ?_
        refine J_icmp_ne (tgt := 149) hT dL_isFault_142 (by decide) (fun q => absurd (hv7) q) (fun _ => ?_)
        refine J_iconst (v := 1) hT dL_isFault_145 rfl ?_
        refine J_goto (tgt := 150) hT dL_isFault_146 (by decide) ?_
        refine S_istore3 hT dL_isFault_150 rfl rfl ?_
        refine J_iload_n (i := 3) hT dL_isFault_151 rfl rfl ?_
        exact J_iret hT dL_isFault_152 rfl rfl (⟨rfl, n, q + 1, μ3, σ8, π3, g3, S7, rfl, hP8, hg3, hc7.tr hy8.cl2, Or.inl ⟨rfl, q7⟩⟩) (by decide) (by decide)
    rcases hf4 with hv | hv
    · rw [hv]
      refine J_iconst (v := -1) hT dL_isFault_105 rfl ?_
      refine J_icmp_eq (tgt := 118) hT dL_isFault_106 (by decide) (fun _ => ?_) (fun q => absurd (rfl) q)
      exact tl σ5 hP5 hc5
    · rw [hv]
      refine J_iconst (v := -1) hT dL_isFault_105 rfl ?_
      refine J_icmp_eq (tgt := 118) hT dL_isFault_106 (by decide) (fun q => absurd q (hqn)) (fun _ => ?_)
      refine J_aload_n (i := 0) hT dL_isFault_109 rfl rfl ?_
      refine J_callV (ci := 8) hY dL_isFault_110 mfX8_fault miX8_fault msX8_fault kL_109 ⟨by decide, rfl⟩ hP5.cw.k0 (q_fault hZ hP5) rfl (by decide) rfl rfl (Nat.le_of_ble_eq_true rfl) (by decide) (by decide) (fun r1 μ1 hq => ?_)
      obtain ⟨rfl, σ6, rfl, hP6, hy6⟩ := hq
      show zJ _ _ _ _ (.int (fltI (rdF S4 q) q) :: _) _ _ _
      refine J_iload (i := 4) hT dL_isFault_113 rfl ?_
      refine J_icmp_ne (tgt := 149) hT dL_isFault_115 (by decide) (fun q => absurd (hv) q) (fun _ => ?_)
      exact tl σ6 hP6 (hc5.tr hy6.cl2)

