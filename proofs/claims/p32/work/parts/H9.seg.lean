/-! ===== the law's body, piece by piece ===== -/
abbrev mLw (nm : String) : zM := (⟨RL, nm, ""⟩, cL_law, 13, some .boolean)
/-- what the start gives -/
def zEv (l : Launch) (Z : zZ) : Prop := zSt l Z ∧ zOps Z ∧ zXs Z ∧ zNs Z ∧ zSs Z
/-- the law's own rows -/
def lwK (μ : zMem) : Prop := (zK μ 67 = 0 ∧ zL μ 67 = 30) ∧ (zK μ 68 = 0 ∧ zL μ 68 = 47) ∧ (zK μ 69 = 0 ∧ zL μ 69 = 47)
def lwB (bf bh : Nat) : Prop := (bf = 68 ∧ bh = 69) ∨ (bf = 69 ∧ bh = 68)
theorem lwK.mv {μ μ' : zMem} (h : lwK μ) (hg : zgr μ μ') (hn : 70 ≤ zN μ) : lwK μ' := by
  have e : ∀ b, b < 70 → zK μ' b = zK μ b ∧ zL μ' b = zL μ b := fun b hb => hg.2 b (by omega)
  exact ⟨⟨(e 67 (by decide)).1.trans h.1.1, (e 67 (by decide)).2.trans h.1.2⟩, ⟨(e 68 (by decide)).1.trans h.2.1.1, (e 68 (by decide)).2.trans h.2.1.2⟩, ⟨(e 69 (by decide)).1.trans h.2.2.1, (e 69 (by decide)).2.trans h.2.2.2⟩⟩
theorem lwB.f {μ : zMem} {bf bh : Nat} (hB : lwB bf bh) (h : lwK μ) : zK μ bf = 0 ∧ zL μ bf = 47 := by rcases hB with ⟨rfl, rfl⟩ | ⟨rfl, rfl⟩; exact h.2.1; exact h.2.2
theorem lwB.h {μ : zMem} {bf bh : Nat} (hB : lwB bf bh) (h : lwK μ) : zK μ bh = 0 ∧ zL μ bh = 47 := by rcases hB with ⟨rfl, rfl⟩ | ⟨rfl, rfl⟩; exact h.2.2; exact h.2.1
theorem lwB.sw {bf bh : Nat} (hB : lwB bf bh) : lwB bh bf := by unfold lwB at *; omega
theorem lwB.rf {bf bh : Nat} (hB : lwB bf bh) (μ : zMem) : lwR μ bf := by unfold lwB at hB; exact ⟨by omega, Or.inl (by omega)⟩
theorem lwB.rh {bf bh : Nat} (hB : lwB bf bh) (μ : zMem) : lwR μ bh := hB.sw.rf μ
theorem lwB.ne {bf bh : Nat} (hB : lwB bf bh) : bf ≠ bh := by unfold lwB at hB; omega
theorem lwB.b {bf bh : Nat} (hB : lwB bf bh) : 67 ≤ bf ∧ bf < 70 ∧ 67 ≤ bh ∧ bh < 70 := by unfold lwB at hB; omega
def Dd (Y n : Nat) (S : zS2) (x : Int32) (n' : Nat) (S' : zS2) : Prop := Did n S (dD Y).1 (dD Y).2.1 (dD Y).2.2.1 (dD Y).2.2.2.1 (dD Y).2.2.2.2 (dRf Y n S) x n' S'
set_option maxRecDepth 100000 in
set_option maxHeartbeats 4000000 in
theorem seg_a {l : Launch} {Z : zZ} (hE : zEv l Z) {nm : String} {τ : zT} {mc ms : Nat} (hY : zCy l Z τ (mLw nm) 200 mc ms) {F : State → Prop} {b0 : Nat} {n L : Nat} {μ : zMem} {σ : zS2} {π : zP2} {g : zG2} {S : zS2} {c k bf bh : Nat} (hK : lwK μ) (hB : lwB bf bh) (h : PW n L μ σ π S) {N : Nat} {xs : Nat → Int32} (hX : zScZ b0 N xs Z) (hN : N < 2147483648) {i : Nat} (hi : i < 36) {held : Int32} {v8 v9 v10 v11 v12 : Option Value} (hc : c + 3 ≤ mc) (hk : k + 38 ≤ ms)
    (hnext : ∀ (Y : Nat) (x : Int32) (n' L' : Nat) (μ1 : zMem) (σ1 : zS2) (π1 : zP2) (g1 : zG2) (S' : zS2), Y < 2147483648 → PW n' L' μ1 σ1 π1 S' → zgr μ μ1 → Dd Y n S x n' S' → (∀ j, j < 47 → σ1 bf j = sw n S j) → (∀ j, j < 47 → σ1 bh j = sw n' S' j) → zJL b0 τ F 83 [none, some (.ref 0), some (.ref 67), some (.ref bf), some (.ref bh), some (.int (held)), some (.int 1), some (.int (nI i)), some (.int (nI Y)), some (.int (nI (Y / 12))), some (.int (x)), v11, v12] [] (zA4 μ1 σ1 π1 g1) (c + 3) (k + 38)) : zJL b0 τ F 37 [none, some (.ref 0), some (.ref 67), some (.ref bf), some (.ref bh), some (.int (held)), some (.int 1), some (.int (nI i)), v8, v9, v10, v11, v12] [] (zA4 μ σ π g) (c) (k) := by
  have hT := hY.1
  have hn70 := h.cw.nn
  refine Q_iload (i := 7) hT dL_law_37 rfl ?_
  refine Q_bipush (v := 36) hT dL_law_39 rfl ?_
  refine Q_icmp_ge (tgt := 576) hT dL_law_41 (by decide) (fun q => absurd q (Int32.not_le.mpr (nI_lt (a := i) (b := 36) (by omega) (by decide)))) (fun _ => ?_)
  refine Q_iload (i := 6) hT dL_law_44 rfl ?_
  refine Q_if_eq (tgt := 576) hT dL_law_46 (by decide) (fun q => absurd q ((by decide))) (fun _ => ?_)
  refine Q_aload0 hT dL_law_49 ?_
  refine M_iload (i := 7) hT dL_law_50 rfl ?_
  refine M_cell hE.1 hY rfl hX hN (Nat.lt_trans hi (by decide)) dL_law_52 rfl (Nat.le_of_ble_eq_true rfl) (by decide) (by omega) (by omega) (fun Y hYb => ?_)
  refine Q_istore (i := 8) hT dL_law_55 (Nat.le_of_ble_eq_true rfl) (by decide) ?_
  show zJL b0 τ F _ [none, some (.ref 0), some (.ref 67), some (.ref bf), some (.ref bh), some (.int (held)), some (.int 1), some (.int (nI i)), some (.int (nI Y)), v9, v10, v11, v12] _ _ _ _
  refine Q_iload (i := 8) hT dL_law_57 rfl ?_
  refine Q_bipush (v := 12) hT dL_law_59 rfl ?_
  refine Q_idiv (d := 12) hT dL_law_61 rfl rfl hYb (by decide) (by decide) ?_
  refine Q_istore (i := 9) hT dL_law_62 (Nat.le_of_ble_eq_true rfl) (by decide) ?_
  show zJL b0 τ F _ [none, some (.ref 0), some (.ref 67), some (.ref bf), some (.ref bh), some (.int (held)), some (.int 1), some (.int (nI i)), some (.int (nI Y)), some (.int (nI (Y / 12))), v10, v11, v12] _ _ _ _
  refine Q_aload_n (i := 1) hT dL_law_64 rfl rfl ?_
  refine Q_aload_n (i := 3) hT dL_law_65 rfl rfl ?_
  refine Q_callS hY dL_law_66 mfL_sees mtL_sees kL_180 (c_L_sees hE.1 h (hB.rf μ) (hB.f hK).1 (hB.f hK).2) rfl (by decide) rfl rfl (Nat.le_of_ble_eq_true rfl) (by omega) (by omega) (fun r μq hq => ?_)
  obtain ⟨rfl, σ1, rfl, he1, hs1⟩ := hq
  have hP1 : PW n L μ σ1 π S := h.row (hB.rf μ) he1
  show zJL b0 τ F _ _ [] (zA4 μ σ1 π g) _ _
  refine Q_aload_n (i := 1) hT dL_law_69 rfl rfl ?_
  refine Q_iload (i := 8) hT dL_law_70 rfl ?_
  refine Q_callS hY dL_law_72 mfL_does mtL_does kL_184 (c_L_does hE.1 hE.2.1 hE.2.2.1 hE.2.2.2.1 hE.2.2.2.2 hP1 hYb) rfl (by decide) rfl rfl (Nat.le_of_ble_eq_true rfl) (by omega) (by omega) (fun r μq hq => ?_)
  obtain ⟨x, rfl, n2, L2, μ2, σ2, π2, g2, S2, rfl, hP2, hg2, hc2, hd2⟩ := hq
  have hK2 : lwK μ2 := hK.mv hg2 hn70
  show zJL b0 τ F _ _ [.int x] (zA4 μ2 σ2 π2 g2) _ _
  refine Q_istore (i := 10) hT dL_law_75 (Nat.le_of_ble_eq_true rfl) (by decide) ?_
  show zJL b0 τ F _ [none, some (.ref 0), some (.ref 67), some (.ref bf), some (.ref bh), some (.int (held)), some (.int 1), some (.int (nI i)), some (.int (nI Y)), some (.int (nI (Y / 12))), some (.int (x)), v11, v12] _ _ _ _
  refine Q_aload_n (i := 1) hT dL_law_77 rfl rfl ?_
  refine Q_aload (i := 4) hT dL_law_78 rfl ?_
  refine Q_callS hY dL_law_80 mfL_sees mtL_sees kL_180 (c_L_sees hE.1 hP2 (hB.rh μ2) (hB.h hK2).1 (hB.h hK2).2) rfl (by decide) rfl rfl (Nat.le_of_ble_eq_true rfl) (by omega) (by omega) (fun r μq hq => ?_)
  obtain ⟨rfl, σ3, rfl, he3, hs3⟩ := hq
  have hP3 : PW n2 L2 μ2 σ3 π2 S2 := hP2.row (hB.rh μ2) he3
  have hb := hB.b
  show zJL b0 τ F _ _ [] (zA4 μ2 σ3 π2 g2) _ _
  exact (hnext Y x n2 L2 μ2 σ3 π2 g2 S2 hYb hP3 hg2 hd2 (fun j hj => (he3 bf hB.ne j).trans (((hc2 bf hb.1 hb.2.1 j).1).trans (hs1 j hj))) hs3).wide (by omega) (by omega)

theorem dD_11 {Y : Nat} (h : Y % 12 = 11) (h2 : Y / 12 / 5 % 4 ≠ 0) : (dD Y).1 = 10 ∧ (dD Y).2.1 = nI (1 + Y / 12 / 5 % 15) := by
  have : dD Y = (10, nI (1 + Y / 12 / 5 % 15), 0, 0, []) := by simp [dD, h, h2]
  rw [this]
  exact ⟨rfl, rfl⟩
/-- how a step has gone -/
theorem Dd.told {Y n : Nat} {S : zS2} {x : Int32} {n' : Nat} {S' : zS2} (h : Dd Y n S x n' S') (hV : CV n S) : (x = -103 ∧ n' = n ∧ zq n S S') ∨ (n < 40 ∧ n' = n + 1 ∧ ∃ r d a, x = nI r ∧ 1 ≤ r ∧ r ≤ 12000 ∧ (Y % 12 = 11 → Y / 12 / 5 % 4 ≠ 0 → 1 + Y / 12 / 5 % 15 ≤ r) ∧ a ≤ 5760000 ∧ d ≤ 144000 ∧ S 67 33 = nI a ∧ S' 67 33 = nI (a + d)) := by
  rcases h with ⟨h1, h2, h3, h4⟩ | ⟨h1, h2, h3, h4, h5, h6⟩
  · exact Or.inl ⟨h2, h3, h4⟩
  · refine Or.inr ⟨h2, h3, ?_⟩
    obtain ⟨n1, n2, n3⟩ := KS_n h5
    obtain ⟨-, -, a, a1, a2⟩ := hV.ni
    obtain ⟨d, d1, d2⟩ := Wd.do (kpS (ly S n (dD Y).2.2.2.2) n (dD Y).1 (dD Y).2.1 (dD Y).2.2.1 (dD Y).2.2.2.1) n
    have ew : kpS (ly S n (dD Y).2.2.2.2) n (dD Y).1 (dD Y).2.1 (dD Y).2.2.1 (dD Y).2.2.2.1 67 33 = S 67 33 := by
      have : kpS (ly S n (dD Y).2.2.2.2) n (dD Y).1 (dD Y).2.1 (dD Y).2.2.1 (dD Y).2.2.2.1 67 33 = ly S n (dD Y).2.2.2.2 67 33 := by simp [kpS, zu]
      rw [this, ly_ne S n _ (by decide)]
    rw [ew, a2, nI_add] at d2
    have hw := h6.work
    rw [d2] at hw
    clear ew h5 h6 d2
    generalize doF (kpS (ly S n (dD Y).2.2.2.2) n (dD Y).1 (dD Y).2.1 (dD Y).2.2.1 (dD Y).2.2.2.1) n = D at n1 n2 n3 d1 h4
    have hr : 1 ≤ D.2 := by
      by_cases q : (dD Y).1 = 10
      · have h7 := n3 q
        have : 1 ≤ (dD Y).2.1.toNatClampNeg := by
          have hY : Y % 12 = 11 ∧ Y / 12 / 5 % 4 ≠ 0 := by
            have h12 : Y % 12 = 0 ∨ Y % 12 = 1 ∨ Y % 12 = 2 ∨ Y % 12 = 3 ∨ Y % 12 = 4 ∨ Y % 12 = 5 ∨ Y % 12 = 6 ∨ Y % 12 = 7 ∨ Y % 12 = 8 ∨ Y % 12 = 9 ∨ Y % 12 = 10 ∨ Y % 12 = 11 := by omega
            rcases h12 with hz | hz | hz | hz | hz | hz | hz | hz | hz | hz | hz | hz
            all_goals first
              | (exfalso; simp [dD, hz] at q; done)
              | skip
            refine ⟨hz, fun z4 => ?_⟩
            simp [dD, hz, z4] at q
          rw [(dD_11 hY.1 hY.2).2, nI_clamp (by omega)]
          omega
        omega
      · exact n2 q
    refine ⟨D.2, d, a, h4, hr, n1, fun z1 z2 => ?_, a1, by omega, a2, hw⟩
    have h7 := n3 (dD_11 z1 z2).1
    rw [(dD_11 z1 z2).2, nI_clamp (by omega)] at h7
    exact h7
set_option maxRecDepth 100000 in
set_option maxHeartbeats 4000000 in
theorem seg_b {l : Launch} {Z : zZ} (hE : zEv l Z) {nm : String} {τ : zT} {mc ms : Nat} (hY : zCy l Z τ (mLw nm) 200 mc ms) {F : State → Prop} {b0 : Nat} {n L : Nat} {μ : zMem} {σ : zS2} {π : zP2} {g : zG2} {S : zS2} {c k bf bh : Nat} (hK : lwK μ) (hB : lwB bf bh) (h : PW n L μ σ π S) {i Y n' L' : Nat} {x held : Int32} {S0 : zS2} {n0 : Nat} {v11 v12 : Option Value} (hYb : Y < 2147483648) (hV0 : CV n0 S0) (hd : Dd Y n0 S0 x n S) (hc : c ≤ mc) (hk : k ≤ ms) (hf : ∀ j, j < 47 → σ bf j = sw n0 S0 j) (hh : ∀ j, j < 47 → σ bh j = sw n S j)
    (hnext : zJL b0 τ F 170 [none, some (.ref 0), some (.ref 67), some (.ref bf), some (.ref bh), some (.int (held)), some (.int 1), some (.int (nI i)), some (.int (nI Y)), some (.int (nI (Y / 12))), some (.int (x)), v11, v12] [] (zA4 μ σ π g) (c) (k)) : zJL b0 τ F 83 [none, some (.ref 0), some (.ref 67), some (.ref bf), some (.ref bh), some (.int (held)), some (.int 1), some (.int (nI i)), some (.int (nI Y)), some (.int (nI (Y / 12))), some (.int (x)), v11, v12] [] (zA4 μ σ π g) (c) (k) := by
  have hT := hY.1
  have hz : Y / 12 < 2147483648 := Nat.lt_of_le_of_lt (Nat.div_le_self _ _) hYb
  have hv : Y / 12 / 5 < 2147483648 := Nat.lt_of_le_of_lt (Nat.div_le_self _ _) hz
  have zf : ∀ m : Nat, m < 47 → zix (nI m) m (zL (zA4 μ σ π g) bf) := fun m hm => by
    show zix (nI m) m (zL μ bf)
    rw [(hB.f hK).2]
    exact zix_nI hm (by decide)
  have zh : ∀ m : Nat, m < 47 → zix (nI m) m (zL (zA4 μ σ π g) bh) := fun m hm => by
    show zix (nI m) m (zL μ bh)
    rw [(hB.h hK).2]
    exact zix_nI hm (by decide)
  rcases hd.told hV0 with ⟨rfl, rfl, hq⟩ | ⟨hn40, rfl, r, d, a, rfl, hr1, hr2, hr3, ha, hd2, hw1, hw2⟩
  · have e : ∀ j, j < 47 → σ bf j = σ bh j := fun j hj => by rw [hf j hj, hh j hj, sw_q hq]
    refine Q_iload (i := 10) hT dL_law_83 rfl ?_
    refine Q_bipush (v := -103) hT dL_law_85 rfl ?_
    refine Q_icmp_ne (tgt := 99) hT dL_law_87 (by decide) (fun q => absurd (rfl) q) (fun _ => ?_)
    refine Q_aload_n (i := 3) hT dL_law_90 rfl rfl ?_
    refine Q_aload (i := 4) hT dL_law_91 rfl ?_
    refine Q_callS hY dL_law_93 mfL_areAlike mtL_areAlike kL_187 (c_L_areAlike hE.1 (hB.f hK) (hB.h hK) e) rfl (by decide) rfl rfl (Nat.le_of_ble_eq_true rfl) (by omega) (by omega) (fun r μq hq => ?_)
    obtain ⟨rfl, rfl⟩ := hq
    show zJL b0 τ F _ _ [.int 1] _ _ _
    refine Q_goto (tgt := 168) hT dL_law_96 (by decide) ?_
    refine Q_istore (i := 6) hT dL_law_168 (Nat.le_of_ble_eq_true rfl) (by decide) ?_
    show zJL b0 τ F _ [none, some (.ref 0), some (.ref 67), some (.ref bf), some (.ref bh), some (.int (held)), some (.int (1)), some (.int (nI i)), some (.int (nI Y)), some (.int (nI (Y / 12))), some (.int (-103)), v11, v12] _ _ _ _
    exact hnext.wide (by omega) (by omega)
  · have e46 : σ bh 46 = nI (n0 + 1) := hh 46 (by decide)
    have f46 : σ bf 46 = nI n0 := hf 46 (by decide)
    have e45 : σ bh 45 = nI (a + d) := (hh 45 (by decide)).trans hw2
    have f45 : σ bf 45 = nI a := (hf 45 (by decide)).trans hw1
    by_cases q11 : Y % 12 = 11
    · by_cases q4 : Y / 12 / 5 % 4 = 0
      · refine Q_iload (i := 10) hT dL_law_83 rfl ?_
        refine Q_bipush (v := -103) hT dL_law_85 rfl ?_
        refine Q_icmp_ne (tgt := 99) hT dL_law_87 (by decide) (fun _ => ?_) (fun q => absurd q ((fun z => absurd (z : nI r = -103) (fun z2 => by have := nI_pos (n := r) (by omega); rw [z2] at this; exact this (by decide)))))
        refine Q_iload (i := 10) hT dL_law_99 rfl ?_
        refine Q_if_le (tgt := 167) hT dL_law_101 (by decide) (fun q => absurd q (nI_nle hr1 (by omega))) (fun _ => ?_)
        refine Q_aload (i := 4) hT dL_law_104 rfl ?_
        refine Q_bipush (v := 46) hT dL_law_106 rfl ?_
        refine Q_iald hT dL_law_108 (hB.h hK).1 (zh 46 (by decide)) ?_
        refine Q_topil (e46) ?_
        refine Q_aload_n (i := 3) hT dL_law_109 rfl rfl ?_
        refine Q_bipush (v := 46) hT dL_law_110 rfl ?_
        refine Q_iald hT dL_law_112 (hB.f hK).1 (zf 46 (by decide)) ?_
        refine Q_topil (f46) ?_
        refine Q_iconst (v := 1) hT dL_law_113 rfl ?_
        refine Q_iadd hT dL_law_114 ?_
        refine Q_topil (nI_1 n0) ?_
        refine Q_icmp_ne (tgt := 167) hT dL_law_115 (by decide) (fun q => absurd (rfl) q) (fun _ => ?_)
        refine Q_aload (i := 4) hT dL_law_118 rfl ?_
        refine Q_bipush (v := 45) hT dL_law_120 rfl ?_
        refine Q_iald hT dL_law_122 (hB.h hK).1 (zh 45 (by decide)) ?_
        refine Q_topil (e45) ?_
        refine Q_aload_n (i := 3) hT dL_law_123 rfl rfl ?_
        refine Q_bipush (v := 45) hT dL_law_124 rfl ?_
        refine Q_iald hT dL_law_126 (hB.f hK).1 (zf 45 (by decide)) ?_
        refine Q_topil (f45) ?_
        refine Q_icmp_lt (tgt := 167) hT dL_law_127 (by decide) (fun q => absurd q ((Int32.not_lt.mpr (nI_le (Nat.le_add_right a d) (by omega))))) (fun _ => ?_)
        refine Q_iload (i := 8) hT dL_law_130 rfl ?_
        refine Q_bipush (v := 12) hT dL_law_132 rfl ?_
        refine Q_irem (d := 12) hT dL_law_134 rfl rfl hYb (by decide) (by decide) ?_
        refine Q_bipush (v := 11) hT dL_law_135 rfl ?_
        refine Q_icmp_ne (tgt := 163) hT dL_law_137 (by decide) (fun q => absurd ((by rw [q11]; rfl)) q) (fun _ => ?_)
        refine Q_iload (i := 9) hT dL_law_140 rfl ?_
        refine Q_iconst (v := 5) hT dL_law_142 rfl ?_
        refine Q_idiv (d := 5) hT dL_law_143 rfl rfl hz (by decide) (by decide) ?_
        refine Q_iconst (v := 4) hT dL_law_144 rfl ?_
        refine Q_irem (d := 4) hT dL_law_145 rfl rfl hv (by decide) (by decide) ?_
        refine Q_if_eq (tgt := 163) hT dL_law_146 (by decide) (fun _ => ?_) (fun q => absurd ((by rw [q4]; rfl)) q)
        refine Q_iconst (v := 1) hT dL_law_163 rfl ?_
        refine Q_goto (tgt := 168) hT dL_law_164 (by decide) ?_
        refine Q_istore (i := 6) hT dL_law_168 (Nat.le_of_ble_eq_true rfl) (by decide) ?_
        show zJL b0 τ F _ [none, some (.ref 0), some (.ref 67), some (.ref bf), some (.ref bh), some (.int (held)), some (.int (1)), some (.int (nI i)), some (.int (nI Y)), some (.int (nI (Y / 12))), some (.int (nI r)), v11, v12] _ _ _ _
        exact hnext
      · have hr4 := hr3 q11 q4
        refine Q_iload (i := 10) hT dL_law_83 rfl ?_
        refine Q_bipush (v := -103) hT dL_law_85 rfl ?_
        refine Q_icmp_ne (tgt := 99) hT dL_law_87 (by decide) (fun _ => ?_) (fun q => absurd q ((fun z => absurd (z : nI r = -103) (fun z2 => by have := nI_pos (n := r) (by omega); rw [z2] at this; exact this (by decide)))))
        refine Q_iload (i := 10) hT dL_law_99 rfl ?_
        refine Q_if_le (tgt := 167) hT dL_law_101 (by decide) (fun q => absurd q (nI_nle hr1 (by omega))) (fun _ => ?_)
        refine Q_aload (i := 4) hT dL_law_104 rfl ?_
        refine Q_bipush (v := 46) hT dL_law_106 rfl ?_
        refine Q_iald hT dL_law_108 (hB.h hK).1 (zh 46 (by decide)) ?_
        refine Q_topil (e46) ?_
        refine Q_aload_n (i := 3) hT dL_law_109 rfl rfl ?_
        refine Q_bipush (v := 46) hT dL_law_110 rfl ?_
        refine Q_iald hT dL_law_112 (hB.f hK).1 (zf 46 (by decide)) ?_
        refine Q_topil (f46) ?_
        refine Q_iconst (v := 1) hT dL_law_113 rfl ?_
        refine Q_iadd hT dL_law_114 ?_
        refine Q_topil (nI_1 n0) ?_
        refine Q_icmp_ne (tgt := 167) hT dL_law_115 (by decide) (fun q => absurd (rfl) q) (fun _ => ?_)
        refine Q_aload (i := 4) hT dL_law_118 rfl ?_
        refine Q_bipush (v := 45) hT dL_law_120 rfl ?_
        refine Q_iald hT dL_law_122 (hB.h hK).1 (zh 45 (by decide)) ?_
        refine Q_topil (e45) ?_
        refine Q_aload_n (i := 3) hT dL_law_123 rfl rfl ?_
        refine Q_bipush (v := 45) hT dL_law_124 rfl ?_
        refine Q_iald hT dL_law_126 (hB.f hK).1 (zf 45 (by decide)) ?_
        refine Q_topil (f45) ?_
        refine Q_icmp_lt (tgt := 167) hT dL_law_127 (by decide) (fun q => absurd q ((Int32.not_lt.mpr (nI_le (Nat.le_add_right a d) (by omega))))) (fun _ => ?_)
        refine Q_iload (i := 8) hT dL_law_130 rfl ?_
        refine Q_bipush (v := 12) hT dL_law_132 rfl ?_
        refine Q_irem (d := 12) hT dL_law_134 rfl rfl hYb (by decide) (by decide) ?_
        refine Q_bipush (v := 11) hT dL_law_135 rfl ?_
        refine Q_icmp_ne (tgt := 163) hT dL_law_137 (by decide) (fun q => absurd ((by rw [q11]; rfl)) q) (fun _ => ?_)
        refine Q_iload (i := 9) hT dL_law_140 rfl ?_
        refine Q_iconst (v := 5) hT dL_law_142 rfl ?_
        refine Q_idiv (d := 5) hT dL_law_143 rfl rfl hz (by decide) (by decide) ?_
        refine Q_iconst (v := 4) hT dL_law_144 rfl ?_
        refine Q_irem (d := 4) hT dL_law_145 rfl rfl hv (by decide) (by decide) ?_
        refine Q_if_eq (tgt := 163) hT dL_law_146 (by decide) (fun q => absurd q (nI_ne0 (Nat.pos_of_ne_zero q4) (md (by decide) (by decide)))) (fun _ => ?_)
        refine Q_iload (i := 10) hT dL_law_149 rfl ?_
        refine Q_iconst (v := 1) hT dL_law_151 rfl ?_
        refine Q_iload (i := 9) hT dL_law_152 rfl ?_
        refine Q_iconst (v := 5) hT dL_law_154 rfl ?_
        refine Q_idiv (d := 5) hT dL_law_155 rfl rfl hz (by decide) (by decide) ?_
        refine Q_bipush (v := 15) hT dL_law_156 rfl ?_
        refine Q_irem (d := 15) hT dL_law_158 rfl rfl hv (by decide) (by decide) ?_
        refine Q_iadd hT dL_law_159 ?_
        refine Q_topil (nI_add 1 _) ?_
        refine Q_icmp_lt (tgt := 167) hT dL_law_160 (by decide) (fun q => absurd q ((Int32.not_lt.mpr (nI_le hr4 (by omega))))) (fun _ => ?_)
        refine Q_iconst (v := 1) hT dL_law_163 rfl ?_
        refine Q_goto (tgt := 168) hT dL_law_164 (by decide) ?_
        refine Q_istore (i := 6) hT dL_law_168 (Nat.le_of_ble_eq_true rfl) (by decide) ?_
        show zJL b0 τ F _ [none, some (.ref 0), some (.ref 67), some (.ref bf), some (.ref bh), some (.int (held)), some (.int (1)), some (.int (nI i)), some (.int (nI Y)), some (.int (nI (Y / 12))), some (.int (nI r)), v11, v12] _ _ _ _
        exact hnext
    · refine Q_iload (i := 10) hT dL_law_83 rfl ?_
      refine Q_bipush (v := -103) hT dL_law_85 rfl ?_
      refine Q_icmp_ne (tgt := 99) hT dL_law_87 (by decide) (fun _ => ?_) (fun q => absurd q ((fun z => absurd (z : nI r = -103) (fun z2 => by have := nI_pos (n := r) (by omega); rw [z2] at this; exact this (by decide)))))
      refine Q_iload (i := 10) hT dL_law_99 rfl ?_
      refine Q_if_le (tgt := 167) hT dL_law_101 (by decide) (fun q => absurd q (nI_nle hr1 (by omega))) (fun _ => ?_)
      refine Q_aload (i := 4) hT dL_law_104 rfl ?_
      refine Q_bipush (v := 46) hT dL_law_106 rfl ?_
      refine Q_iald hT dL_law_108 (hB.h hK).1 (zh 46 (by decide)) ?_
      refine Q_topil (e46) ?_
      refine Q_aload_n (i := 3) hT dL_law_109 rfl rfl ?_
      refine Q_bipush (v := 46) hT dL_law_110 rfl ?_
      refine Q_iald hT dL_law_112 (hB.f hK).1 (zf 46 (by decide)) ?_
      refine Q_topil (f46) ?_
      refine Q_iconst (v := 1) hT dL_law_113 rfl ?_
      refine Q_iadd hT dL_law_114 ?_
      refine Q_topil (nI_1 n0) ?_
      refine Q_icmp_ne (tgt := 167) hT dL_law_115 (by decide) (fun q => absurd (rfl) q) (fun _ => ?_)
      refine Q_aload (i := 4) hT dL_law_118 rfl ?_
      refine Q_bipush (v := 45) hT dL_law_120 rfl ?_
      refine Q_iald hT dL_law_122 (hB.h hK).1 (zh 45 (by decide)) ?_
      refine Q_topil (e45) ?_
      refine Q_aload_n (i := 3) hT dL_law_123 rfl rfl ?_
      refine Q_bipush (v := 45) hT dL_law_124 rfl ?_
      refine Q_iald hT dL_law_126 (hB.f hK).1 (zf 45 (by decide)) ?_
      refine Q_topil (f45) ?_
      refine Q_icmp_lt (tgt := 167) hT dL_law_127 (by decide) (fun q => absurd q ((Int32.not_lt.mpr (nI_le (Nat.le_add_right a d) (by omega))))) (fun _ => ?_)
      refine Q_iload (i := 8) hT dL_law_130 rfl ?_
      refine Q_bipush (v := 12) hT dL_law_132 rfl ?_
      refine Q_irem (d := 12) hT dL_law_134 rfl rfl hYb (by decide) (by decide) ?_
      refine Q_bipush (v := 11) hT dL_law_135 rfl ?_
      refine Q_icmp_ne (tgt := 163) hT dL_law_137 (by decide) (fun _ => ?_) (fun q => absurd q ((fun z => q11 ((nI_eq (b := 11) (md (by decide) (by decide)) (by decide)).mp z))))
      refine Q_iconst (v := 1) hT dL_law_163 rfl ?_
      refine Q_goto (tgt := 168) hT dL_law_164 (by decide) ?_
      refine Q_istore (i := 6) hT dL_law_168 (Nat.le_of_ble_eq_true rfl) (by decide) ?_
      show zJL b0 τ F _ [none, some (.ref 0), some (.ref 67), some (.ref bf), some (.ref bh), some (.int (held)), some (.int (1)), some (.int (nI i)), some (.int (nI Y)), some (.int (nI (Y / 12))), some (.int (nI r)), v11, v12] _ _ _ _
      exact hnext

