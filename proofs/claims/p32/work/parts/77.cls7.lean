theorem enF_ne (σ : zS2) (a : Nat) (x w : Int32) {b i : Nat} (h : b ≠ a ∨ (i ≠ 1 ∧ i ≠ 10 ∧ i ≠ 11 ∧ i ≠ 12)) : enF σ a x w b i = σ b i := by
  unfold enF
  split
  · rw [zu_n _ _ _ _ (by omega)]
  · split
    · rw [zu_n _ _ _ _ (by omega), zu_n _ _ _ _ (by omega)]
    · split
      · rw [zu_n _ _ _ _ (by omega), zu_n _ _ _ _ (by omega), zu_n _ _ _ _ (by omega)]
      · rw [zu_n _ _ _ _ (by omega)]
theorem zfT_en {t : Nat} {σ : zS2} {a : Nat} {x w : Int32} (h : zmu t a) : zfT t σ (enF σ a x w) := fun b j q => enF_ne _ _ _ _ (Or.inl (fun e => q (e ▸ h)))
theorem rdC_at (S : zS2) (s : Nat) {b : Nat} (h : b ≠ 92 ∧ b ≠ 93 ∧ b ≠ 94 ∧ b ≠ 97) (j : Nat) : rdC S s b j = S b j := by
  unfold rdC changeF runF
  obtain ⟨h1, h2, h3, h4⟩ := h
  split
  · rfl
  · split
    · exact zu_ne _ _ _ _ h1 j
    · split
      · split
        · rw [zu_ne _ _ _ _ h4, zu_ne _ _ _ _ h1, zu_ne _ _ _ _ h1, zu_ne _ _ _ _ h3, zu_ne _ _ _ _ h2]
        · rw [zu_ne _ _ _ _ h1, zu_ne _ _ _ _ h3, zu_ne _ _ _ _ h2]
      · split
        · rw [zu_ne _ _ _ _ h4, zu_ne _ _ _ _ h1]
        · rfl
def ldN (S : zS2) (s : Nat) : Int32 := if nsN S s = 2 then lrN S s else 0
def tdN (S : zS2) (s : Nat) : Int32 := if nsN S s = 2 ∧ S 87 s ≠ -1 then S 87 s else ldN S s
theorem loadN_rd {S : zS2} {s : Nat} (h : rdC S s 92 s = nsN S s) : loadN (rdC S s) s = ldN S s := by
  unfold loadN ldN lrN
  dsimp only
  rw [h, rdC_at S s (by decide : 83 ≠ 92 ∧ 83 ≠ 93 ∧ 83 ≠ 94 ∧ 83 ≠ 97), rdC_at S s (by decide : 85 ≠ 92 ∧ 85 ≠ 93 ∧ 85 ≠ 94 ∧ 85 ≠ 97), rdC_at S s (by decide : 88 ≠ 92 ∧ 88 ≠ 93 ∧ 88 ≠ 94 ∧ 88 ≠ 97)]
  by_cases e : nsN S s = 2
  · rw [e, if_pos rfl]
    simp only [ne_eq, not_true, false_or]
    by_cases c : S 83 s < 0
    · simp only [c, if_true, Int32.lt_irrefl, if_false]
    · simp only [c, if_false]
  · rw [if_neg e, if_pos (Or.inl e)]
theorem rdT_rd {S : zS2} {s : Nat} (h : rdC S s 92 s = nsN S s) (h87 : S 87 s = -1 ∨ 0 ≤ S 87 s) : rdT (rdL (rdC S s) s) s = tdN S s := by
  unfold rdT tdN rdL
  rw [loadN_rd h, zu_ne _ _ _ _ (by decide : 87 ≠ 95), zu_ne _ _ _ _ (by decide : 92 ≠ 95), zu_eq, rdC_at S s (by decide : 87 ≠ 92 ∧ 87 ≠ 93 ∧ 87 ≠ 94 ∧ 87 ≠ 97), h]
  rcases h87 with e | e
  · rw [if_neg (by rw [e]; exact fun q => absurd q.1 (by decide)), if_neg (fun q => q.2 e)]
  · have n1 : S 87 s ≠ -1 := fun q => by rw [q] at e; exact absurd e (by decide)
    by_cases c : nsN S s = 2
    · rw [if_pos ⟨e, c⟩, if_pos ⟨c, n1⟩]
    · rw [if_neg (fun q => c q.2), if_neg (fun q => c q.1)]
theorem rdS_ch {S : zS2} {s : Nat} (h : rdC S s 92 s = nsN S s) (h87 : S 87 s = -1 ∨ 0 ≤ S 87 s) : rdS S s 92 s = nsN S s ∧ rdS S s 95 s = ldN S s ∧ rdS S s 96 s = tdN S s := by
  unfold rdS
  rw [rdT_rd h h87, tellF_told, if_pos rfl, tellF_ne _ _ _ (by decide) (by decide), tellF_ne _ _ _ (by decide) (by decide)]
  unfold rdL
  rw [zu_ne _ _ _ _ (by decide), zu_eq, loadN_rd h]
  exact ⟨h, rfl, rfl⟩
theorem rdS_same {S : zS2} {s : Nat} (h : rdC S s 92 s = nsN S s) (h2 : nsN S s = S 92 s → rdC S s = S) (h87 : S 87 s = -1 ∨ 0 ≤ S 87 s) (e1 : nsN S s = S 92 s) (e2 : ldN S s = S 95 s) (e3 : tdN S s = S 96 s) : rdS S s = S := by
  have a := rdT_rd h h87
  have b := loadN_rd h
  have c := h2 e1
  unfold rdS
  rw [a]
  unfold rdL
  rw [b, c, e2, e3, zu_self rfl]
  exact if_pos rfl
theorem chB_eq (S S' : zS2) (k : Nat) : chB S S' k = false ↔ S' 92 k = S 92 k ∧ S' 95 k = S 95 k ∧ S' 96 k = S 96 k := by
  unfold chB
  simp only [Bool.not_eq_false', Bool.and_eq_true, decide_eq_true_eq]
theorem mo.en {t : Nat} (ht : ta t) {μ : zMem} {σ : zS2} {π : zP2} {S : zS2} (h : mo t μ σ π S) (hX : XI S) {s : Nat} (hs : s < 5) : mo t μ (enF σ (t + 25 + s) (nsN S s) (S 67 34)) π (rdC S s) :=
  ⟨(h.1.enter ht hX hs).2.1, h.2.mv (fun _ => rfl) (fun c _ => rdC_at S s (by decide) c)⟩
theorem mo.uj {t : Nat} (ht : ta t) {μ : zMem} {σ : zS2} {π : zP2} {S : zS2} (h : mo t μ σ π S) {a i : Nat} {v : Int32} (ha : a = t + 7 ∨ (t + 25 ≤ a ∧ a < t + 30 ∧ (i = 13 ∨ (10 < i ∧ ∀ s, s < 5 → a = t + 25 + s → S 92 s ≠ 1)))) : mo t μ (zu σ a i v) π S := ⟨h.1.uj ht ha, h.2⟩
def zLk (t : Nat) (μ : zMem) (σ : zS2) (π : zP2) (g : zG2) (S : zS2) (rn : Int32) (k : Nat) (σ1 : zS2) (π1 : zP2) : Prop := mo t μ σ1 π1 (rdP S k) ∧ zfT t σ σ1 ∧ π1 = π ∧ ∀ j, j < 5 → σ1 (t + 25 + j) 13 = if bt (rdM S k) j = true then rn else σ (t + 25 + j) 13
theorem b_or0 (m : Int32) : m ||| 0 = m := b_ext fun i hi => by rw [b_or, b_0, Bool.or_false]

set_option maxRecDepth 100000 in
set_option maxHeartbeats 4000000 in
theorem c_X6_lookAtServices {l : Launch} {Z : zZ} (hZ : zSt l Z) {μ : zMem} {σ : zS2} {π : zP2} {g : zG2} {t : Nat} (ht : ta t) {S : zS2} (hM : mo t μ σ π S) (hR : RI S) (hX : XI S) {rn : Int32} : zCt l Z mX6_lookAtServices 3 0 0 [.ref t, .int rn] (zA4 μ σ π g) (fun r μ' => r = some (.int (zbi (decide (rdM S 5 ≠ 0)))) ∧ ∃ σ' π', μ' = zA4 μ σ' π' g ∧ zLk t μ σ π g S rn 5 σ' π') := by
  refine zCt_of hZ mpX6_lookAtServices (Nat.le_of_ble_eq_true rfl) (L := [some (.ref t), some (.int rn), none, none, none, none, none, none, none, none]) rfl (fun τ hY => ?_)
  have hT := hY.1
  have hB := hM.1.tb
  have loop : ∀ n k, k + n = 5 → ∀ σ1 π1, zLk t μ σ π g S rn k σ1 π1 → zJ τ (zFn τ (fun r μ' => r = some (.int (zbi (decide (rdM S 5 ≠ 0)))) ∧ ∃ σ' π', μ' = zA4 μ σ' π' g ∧ zLk t μ σ π g S rn 5 σ' π') 0 0) 14 [some (.ref t), some (.int rn), some (.int (zbi (decide (rdM S k ≠ 0)))), some (.ref (t + 6)), some (.int (nI 5)), some (.int (nI k)), none, none, none, none] [] (zA4 μ σ1 π1 g) 0 0 := by
    intro n
    induction n with
    | zero =>
      intro k hi
      have : k = 5 := by omega
      subst this
      intro σ1 π1 hk
      refine J_iload (i := 5) hT dX6_lookAtServices_14 rfl ?_
      refine J_iload (i := 4) hT dX6_lookAtServices_16 rfl ?_
      refine J_icmp_ge (tgt := 150) hT dX6_lookAtServices_18 (by decide) (fun _ => ?_) (fun q => absurd (nI_le (a := 5) (b := 5) (by decide) (by decide)) q)
      refine J_iload_n (i := 2) hT dX6_lookAtServices_150 rfl rfl ?_
      exact J_iret hT dX6_lookAtServices_151 rfl (zbi_nar _) (⟨rfl, σ1, π1, rfl, hk⟩) (Nat.le_refl _) (Nat.le_refl _)
    | succ n ih =>
      intro k hi
      intro σ1 π1 ⟨hM1, hf1, hp1, hc1⟩
      have hB1 := hM1.1.tb
      have hk5 : k < 5 := by omega
      obtain ⟨S1, hS1⟩ : ∃ S1, S1 = rdP S k := ⟨_, rfl⟩
      have hR1 : RI S1 := by rw [hS1]; exact hR.rd (by omega)
      have hX1 : XI S1 := by rw [hS1]; exact hX.rd (by omega)
      rw [← hS1] at hM1
      have hRP : rdP S (k + 1) = rdS S1 k := by rw [hS1]; rfl
      have hMK : rdM S (k + 1) = rdM S k ||| (if chB S1 (rdS S1 k) k = true then (1 : Int32) <<< (nI k &&& 31) else 0) := by rw [hS1]; rfl
      have h87 : S1 87 k = -1 ∨ 0 ≤ S1 87 k := (hX1.2.2.2.2 k hk5).2.2.1.imp (fun q => q) (fun q => q.1)
      obtain ⟨hE1, hE2, hE3⟩ := hM1.1.enter ht hX1 hk5
      obtain ⟨hS92, hS95, hS96⟩ := rdS_ch hE1 h87
      have t144 : (nsN S1 k = S1 92 k ∧ ldN S1 k = S1 95 k ∧ tdN S1 k = S1 96 k) → zJ τ (zFn τ (fun r μ' => r = some (.int (zbi (decide (rdM S 5 ≠ 0)))) ∧ ∃ σ' π', μ' = zA4 μ σ' π' g ∧ zLk t μ σ π g S rn 5 σ' π') 0 0) 144 [some (.ref t), some (.int rn), some (.int (zbi (decide (rdM S k ≠ 0)))), some (.ref (t + 6)), some (.int (nI 5)), some (.int (nI k)), some (.ref (t + 25 + k)), some (.int (nsN S1 k)), some (.int (ldN S1 k)), some (.int (tdN S1 k))] [] (zA4 μ σ1 π1 g) 0 0 := by
        intro hq
        have e := rdS_same hE1 hE3 h87 hq.1 hq.2.1 hq.2.2
        have e2 : rdM S (k + 1) = rdM S k := by
          rw [hMK, e, if_neg (by rw [(chB_eq S1 S1 k).mpr ⟨rfl, rfl, rfl⟩]; decide), b_or0]
        refine S_iinc5 hT dX6_lookAtServices_144 (nI_inc _) rfl ?_
        refine J_goto (tgt := 14) hT dX6_lookAtServices_147 (by decide) ?_
        refine J_L (L' := [_, _, _, _, _, _, none, none, none, none]) (zsub_keep (zsub_keep (zsub_keep (zsub_keep (zsub_keep (zsub_keep (zsub_drop (zsub_drop (zsub_drop (zsub_drop zsub_nil)))))))))) ?_
        have := ih (k + 1) (by omega) σ1 π1 ⟨by rw [hRP, e]; exact hM1, hf1, hp1, fun j hj => by rw [e2]; exact hc1 j hj⟩
        rw [e2] at this
        exact this
      have t110 : ¬ (nsN S1 k = S1 92 k ∧ ldN S1 k = S1 95 k ∧ tdN S1 k = S1 96 k) → zJ τ (zFn τ (fun r μ' => r = some (.int (zbi (decide (rdM S 5 ≠ 0)))) ∧ ∃ σ' π', μ' = zA4 μ σ' π' g ∧ zLk t μ σ π g S rn 5 σ' π') 0 0) 110 [some (.ref t), some (.int rn), some (.int (zbi (decide (rdM S k ≠ 0)))), some (.ref (t + 6)), some (.int (nI 5)), some (.int (nI k)), some (.ref (t + 25 + k)), some (.int (nsN S1 k)), some (.int (ldN S1 k)), some (.int (tdN S1 k))] [] (zA4 μ σ1 π1 g) 0 0 := by
        intro hq
        have hch : chB S1 (rdS S1 k) k = true := by
          cases h : chB S1 (rdS S1 k) k with
          | true => rfl
          | false =>
            have := (chB_eq _ _ _).mp h
            rw [hS92, hS95, hS96] at this
            exact absurd this hq
        rw [if_pos hch] at hMK
        have hbit : ∀ j, j < 5 → bt (rdM S (k + 1)) j = (bt (rdM S k) j || decide (j = k)) := fun j hj => by rw [hMK, b_or, b_one k (by omega) (by omega)]
        have hflag : (1 : Int32) = zbi (decide (rdM S (k + 1) ≠ 0)) := by
          have : rdM S (k + 1) ≠ 0 := fun q => by
            have := hbit k hk5
            rw [q, b_0] at this
            simp at this
          simp [this, zbi]
        have hM2 := hM1.en ht hX1 hk5
        have hM3 := hM2.ul ht (o := 25) (f := 8) (n := 5) (b := 95) (v := ldN S1 k) (by decide) hk5 (by decide) (by decide)
        have eL : zu (rdC S1 k) 95 k (ldN S1 k) = rdL (rdC S1 k) k := by unfold rdL; rw [loadN_rd hE1]
        rw [eL] at hM3
        have eT : tellF (rdL (rdC S1 k) k) k (tdN S1 k) = rdS S1 k := by unfold rdS; rw [rdT_rd hE1 h87]
        refine J_aload (i := 6) hT dX6_lookAtServices_110 rfl ?_
        refine J_iload (i := 7) hT dX6_lookAtServices_112 rfl ?_
        refine J_aload_n (i := 0) hT dX6_lookAtServices_114 rfl rfl ?_
        refine R_getI hT fX6_49 rfl dX6_lookAtServices_115 hB1.k ?_
        refine J_topil (hM1.1.w) ?_
        refine R_callV0 (ci := 4) hY dX6_lookAtServices_118 mfX4_enter miX4_enter msX4_enter kX6_206 ⟨by decide, rfl⟩ (hB1.ks hk5) (c_X4_enter hZ (hB1.ks hk5)) rfl (by decide) rfl rfl (Nat.le_of_ble_eq_true rfl) (Nat.le_refl _) (Nat.le_refl _) ?_
        refine J_aload (i := 6) hT dX6_lookAtServices_121 rfl ?_
        refine J_iload (i := 8) hT dX6_lookAtServices_123 rfl ?_
        refine R_putI hT fX6_177 rfl rfl dX6_lookAtServices_125 (hB1.ks hk5) ?_
        refine J_aload_n (i := 0) hT dX6_lookAtServices_128 rfl rfl ?_
        refine J_aload (i := 6) hT dX6_lookAtServices_129 rfl ?_
        refine J_iload (i := 9) hT dX6_lookAtServices_131 rfl ?_
        refine J_callV (ci := 6) hY dX6_lookAtServices_133 mfX6_setTold miX6_setTold msX6_setTold kX6_180 ⟨by decide, rfl⟩ hB1.k (c_X6_setTold hZ ht hM3 hk5) rfl (by decide) rfl rfl (Nat.le_of_ble_eq_true rfl) (Nat.le_refl _) (Nat.le_refl _) (fun r1 μ1 hq1 => ?_)
        obtain ⟨rfl, σ2, π2, rfl, hM4, hf4, hp4, hc4⟩ := hq1
        refine J_aload (i := 6) hT dX6_lookAtServices_136 rfl ?_
        refine J_iload_n (i := 1) hT dX6_lookAtServices_138 rfl rfl ?_
        refine R_putI hT fX6_174 rfl rfl dX6_lookAtServices_139 (hB1.ks hk5) ?_
        refine J_iconst (v := 1) hT dX6_lookAtServices_142 rfl ?_
        refine J_topil (hflag) ?_
        refine S_istore2 hT dX6_lookAtServices_143 rfl rfl ?_
        refine S_iinc5 hT dX6_lookAtServices_144 (nI_inc _) rfl ?_
        refine J_goto (tgt := 14) hT dX6_lookAtServices_147 (by decide) ?_
        refine J_L (L' := [_, _, _, _, _, _, none, none, none, none]) (zsub_keep (zsub_keep (zsub_keep (zsub_keep (zsub_keep (zsub_keep (zsub_drop (zsub_drop (zsub_drop (zsub_drop zsub_nil)))))))))) ?_
        rw [eT] at hM4
        refine ih (k + 1) (by omega) _ _ ⟨by rw [hRP]; exact hM4.uj ht (Or.inr ⟨by omega, by omega, Or.inl rfl⟩), ((hf1.tr (zfT_en (zmu_s hk5))).tr ((zfT_u (zmu_s hk5)).tr hf4)).tr (zfT_u (zmu_s hk5)), hp4.trans hp1, fun j hj => ?_⟩
        rw [hbit j hj]
        by_cases e : j = k
        · subst e
          rw [zu_eq]; simp
        · rw [zu_n _ _ _ _ (by omega), hc4 j hj, zu_n _ _ _ _ (by omega), enF_ne _ _ _ _ (Or.inl (by omega)), hc1 j hj]
          simp [e]
      have t78 : zJ τ (zFn τ (fun r μ' => r = some (.int (zbi (decide (rdM S 5 ≠ 0)))) ∧ ∃ σ' π', μ' = zA4 μ σ' π' g ∧ zLk t μ σ π g S rn 5 σ' π') 0 0) 78 [some (.ref t), some (.int rn), some (.int (zbi (decide (rdM S k ≠ 0)))), some (.ref (t + 6)), some (.int (nI 5)), some (.int (nI k)), some (.ref (t + 25 + k)), some (.int (nsN S1 k)), some (.int (ldN S1 k)), none] [.int (tdN S1 k)] (zA4 μ σ1 π1 g) 0 0 := by
        refine S_istore9 hT dX6_lookAtServices_78 rfl ?_
        refine J_iload (i := 7) hT dX6_lookAtServices_80 rfl ?_
        refine J_aload (i := 6) hT dX6_lookAtServices_82 rfl ?_
        refine R_getI hT fX6_159 rfl dX6_lookAtServices_84 (hB1.ks hk5) ?_
        refine J_topil (hM1.1.sst hk5) ?_
        refine J_icmp_ne (tgt := 110) hT dX6_lookAtServices_87 (by decide) (fun q87 => ?_) (fun q87 => ?_)
        · exact t110 (fun q => by first | exact q87 q.1 | exact q97 q.2.1 | exact q107 q.2.2)
        · refine J_iload (i := 8) hT dX6_lookAtServices_90 rfl ?_
          refine J_aload (i := 6) hT dX6_lookAtServices_92 rfl ?_
          refine R_getI hT fX6_177 rfl dX6_lookAtServices_94 (hB1.ks hk5) ?_
          refine J_topil (hM1.1.lod hk5) ?_
          refine J_icmp_ne (tgt := 110) hT dX6_lookAtServices_97 (by decide) (fun q97 => ?_) (fun q97 => ?_)
          · exact t110 (fun q => by first | exact q87 q.1 | exact q97 q.2.1 | exact q107 q.2.2)
          · refine J_iload (i := 9) hT dX6_lookAtServices_100 rfl ?_
            refine J_aload (i := 6) hT dX6_lookAtServices_102 rfl ?_
            refine R_getI hT fX6_192 rfl dX6_lookAtServices_104 (hB1.ks hk5) ?_
            refine J_topil (hM1.1.tld hk5) ?_
            refine J_icmp_eq (tgt := 144) hT dX6_lookAtServices_107 (by decide) (fun q107 => ?_) (fun q107 => ?_)
            · exact t144 ⟨q87, q97, q107⟩
            · exact t110 (fun q => by first | exact q87 q.1 | exact q97 q.2.1 | exact q107 q.2.2)
      have t51 : zJ τ (zFn τ (fun r μ' => r = some (.int (zbi (decide (rdM S 5 ≠ 0)))) ∧ ∃ σ' π', μ' = zA4 μ σ' π' g ∧ zLk t μ σ π g S rn 5 σ' π') 0 0) 51 [some (.ref t), some (.int rn), some (.int (zbi (decide (rdM S k ≠ 0)))), some (.ref (t + 6)), some (.int (nI 5)), some (.int (nI k)), some (.ref (t + 25 + k)), some (.int (nsN S1 k)), none, none] [.int (ldN S1 k)] (zA4 μ σ1 π1 g) 0 0 := by
        refine S_istore8 hT dX6_lookAtServices_51 rfl ?_
        refine J_iload (i := 7) hT dX6_lookAtServices_53 rfl ?_
        refine J_iconst (v := 2) hT dX6_lookAtServices_55 rfl ?_
        refine J_icmp_ne (tgt := 76) hT dX6_lookAtServices_56 (by decide) (fun q56 => ?_) (fun q56 => ?_)
        · refine J_iload (i := 8) hT dX6_lookAtServices_76 rfl ?_
          refine J_topil (y := tdN S1 k) ?_ t78
          show _ = if nsN S1 k = 2 ∧ S1 87 k ≠ -1 then S1 87 k else ldN S1 k
          symm
          first
            | exact if_neg (fun q => absurd q.1 q56)
            | exact if_neg (fun q => absurd q65 q.2)
            | exact if_pos ⟨q56, q65⟩
        · refine J_aload (i := 6) hT dX6_lookAtServices_59 rfl ?_
          refine R_getI hT fX6_156 rfl dX6_lookAtServices_61 (hB1.ks hk5) ?_
          refine J_topil (hM1.1.lie hk5) ?_
          refine J_iconst (v := -1) hT dX6_lookAtServices_64 rfl ?_
          refine J_icmp_eq (tgt := 76) hT dX6_lookAtServices_65 (by decide) (fun q65 => ?_) (fun q65 => ?_)
          · refine J_iload (i := 8) hT dX6_lookAtServices_76 rfl ?_
            refine J_topil (y := tdN S1 k) ?_ t78
            show _ = if nsN S1 k = 2 ∧ S1 87 k ≠ -1 then S1 87 k else ldN S1 k
            symm
            first
              | exact if_neg (fun q => absurd q.1 q56)
              | exact if_neg (fun q => absurd q65 q.2)
              | exact if_pos ⟨q56, q65⟩
          · refine J_aload (i := 6) hT dX6_lookAtServices_68 rfl ?_
            refine R_getI hT fX6_156 rfl dX6_lookAtServices_70 (hB1.ks hk5) ?_
            refine J_topil (hM1.1.lie hk5) ?_
            refine J_goto (tgt := 78) hT dX6_lookAtServices_73 (by decide) ?_
            refine J_topil (y := tdN S1 k) ?_ t78
            show _ = if nsN S1 k = 2 ∧ S1 87 k ≠ -1 then S1 87 k else ldN S1 k
            symm
            first
              | exact if_neg (fun q => absurd q.1 q56)
              | exact if_neg (fun q => absurd q65 q.2)
              | exact if_pos ⟨q56, q65⟩
      refine J_iload (i := 5) hT dX6_lookAtServices_14 rfl ?_
      refine J_iload (i := 4) hT dX6_lookAtServices_16 rfl ?_
      refine J_icmp_ge (tgt := 150) hT dX6_lookAtServices_18 (by decide) (fun q => absurd q (Int32.not_le.mpr (nI_lt (a := k) (b := 5) (by omega) (by decide)))) (fun _ => ?_)
      refine J_aload_n (i := 3) hT dX6_lookAtServices_21 rfl rfl ?_
      refine J_iload (i := 5) hT dX6_lookAtServices_22 rfl ?_
      refine R_aald1 hT dX6_lookAtServices_24 hB1.k6 (by decide) hB1.l6 (by first | exact ⟨rfl, by decide⟩ | exact zix_nI (by omega) (by decide) | assumption) (hB1.ps hk5) ?_
      refine S_astore6 hT dX6_lookAtServices_25 rfl ?_
      refine J_aload_n (i := 0) hT dX6_lookAtServices_27 rfl rfl ?_
      refine J_aload (i := 6) hT dX6_lookAtServices_28 rfl ?_
      refine R_callV1 (ci := 6) hY dX6_lookAtServices_30 mfX6_nextState miX6_nextState msX6_nextState kX6_199 ⟨by decide, rfl⟩ hB1.k (c_X6_nextState hZ ht hM1 hR1 hX1 hk5) rfl (by decide) rfl rfl (Nat.le_of_ble_eq_true rfl) (Nat.le_refl _) (Nat.le_refl _) ?_
      refine S_istore7 hT dX6_lookAtServices_33 rfl ?_
      refine J_iload (i := 7) hT dX6_lookAtServices_35 rfl ?_
      refine J_iconst (v := 2) hT dX6_lookAtServices_37 rfl ?_
      refine J_icmp_ne (tgt := 50) hT dX6_lookAtServices_38 (by decide) (fun q38 => ?_) (fun q38 => ?_)
      · refine J_iconst (v := 0) hT dX6_lookAtServices_50 rfl ?_
        refine J_topil (y := ldN S1 k) ?_ t51
        unfold ldN
        first
          | rw [if_neg q38]
          | rw [if_pos q38]
      · refine J_aload_n (i := 0) hT dX6_lookAtServices_41 rfl rfl ?_
        refine J_aload (i := 6) hT dX6_lookAtServices_42 rfl ?_
        refine R_callV1 (ci := 6) hY dX6_lookAtServices_44 mfX6_loadRunning miX6_loadRunning msX6_loadRunning kX6_203 ⟨by decide, rfl⟩ hB1.k (c_X6_loadRunning hZ ht hM1 hk5 (hR1.2.2.1 k hk5).2) rfl (by decide) rfl rfl (Nat.le_of_ble_eq_true rfl) (Nat.le_refl _) (Nat.le_refl _) ?_
        refine J_goto (tgt := 51) hT dX6_lookAtServices_47 (by decide) ?_
        refine J_topil (y := ldN S1 k) ?_ t51
        unfold ldN
        first
          | rw [if_neg q38]
          | rw [if_pos q38]
  refine J_iconst (v := 0) hT dX6_lookAtServices_0 rfl ?_
  refine S_istore2 hT dX6_lookAtServices_1 rfl rfl ?_
  refine J_aload_n (i := 0) hT dX6_lookAtServices_2 rfl rfl ?_
  refine R_getP hT fX6_37 rfl dX6_lookAtServices_3 hB.k hB.p4 ?_
  refine S_astore3 hT dX6_lookAtServices_6 rfl rfl ?_
  refine J_aload_n (i := 3) hT dX6_lookAtServices_7 rfl rfl ?_
  refine R_alen hT dX6_lookAtServices_8 (by rw [hB.k6]; decide) hB.l6 ?_
  refine S_istore4 hT dX6_lookAtServices_9 rfl ?_
  refine J_iconst (v := 0) hT dX6_lookAtServices_11 rfl ?_
  refine S_istore5 hT dX6_lookAtServices_12 rfl ?_
  exact loop 5 0 rfl σ π ⟨hM, zfT.rf, rfl, fun j hj => by rw [show rdM S 0 = 0 from rfl, b_0]; simp⟩


