theorem clampI_id {x : Int} (h : ib x) : clampI x = x := by
  unfold ib at h; unfold clampI; rw [if_neg (by omega), if_neg (by omega)]
theorem mul_ib {a x : Int} (ha : ib a) (hx : ib x) : -9223372036854775808 ≤ a * x ∧ a * x < 9223372036854775808 := by
  unfold ib at *
  have n1 : a.natAbs ≤ 1000000 := by omega
  have n2 : x.natAbs ≤ 1000000 := by omega
  have n3 := Nat.mul_le_mul n1 n2
  rw [← Int.natAbs_mul] at n3
  omega

set_option maxRecDepth 100000 in
set_option maxHeartbeats 4000000 in
theorem c_X6_valueOf {l : Launch} {Z : zZ} (hZ : zSt l Z) (hO : zOps Z) {μ : zMem} {σ : zS2} {π : zP2} {g : zG2} {t : Nat} (ht : ta t) {S : zS2} (hM : mo t μ σ π S) (hX : XI S) {f n : Nat} {w : Nat → Nat} {ma mb md : Int32} (hF : zFo μ σ π f w n ma mb md) (hW : WF w n) : zCt l Z mX6_valueOf 2 0 0 [.ref t, .ref f] (zA4 μ σ π g) (fun r μ' => r = some (.int (Int32.ofInt ((evP S w n).headD 0))) ∧ ∃ σ', μ' = zA4 μ σ' π g ∧ ∀ b j, b ≠ t + 7 → σ' b j = σ b j) := by
  refine zCt_of hZ mpX6_valueOf (Nat.le_of_ble_eq_true rfl) (L := [some (.ref t), some (.ref f), none, none, none, none, none, none, none, none, none]) rfl (fun τ hY => ?_)
  have hT := hY.1
  have hB := hM.1.tb
  obtain ⟨hfI, hfn, hfk, hf1, hf2, hf3, hf4, ca, hca, hcI, hcn, hck, hcl, hcode⟩ := hF
  have hco := im_out ht hcI
  have hfo := im_out ht hfI
  have loop : ∀ m0 j, j + m0 = n → ∀ σ1 : zS2, (∀ b j, b ≠ t + 7 → σ1 b j = σ b j) → zRw σ1 (t + 7) (evP S w j) → zJ τ (zFn τ (fun r μ' => r = some (.int (Int32.ofInt ((evP S w n).headD 0))) ∧ ∃ σ', μ' = zA4 μ σ' π g ∧ ∀ b j, b ≠ t + 7 → σ' b j = σ b j) 0 0) 14 [some (.ref t), some (.ref f), some (.int (nI (evP S w j).length)), some (.ref ca), some (.int (nI n)), some (.int (nI j)), none, none, none, none, none] [] (zA4 μ σ1 π g) 0 0 := by
    intro m0
    induction m0 with
    | zero =>
      intro j hi
      have : j = n := by omega
      subst this
      intro σ1 hσ1 hrow
      refine J_iload (i := 5) hT dX6_valueOf_14 rfl ?_
      refine J_iload (i := 4) hT dX6_valueOf_16 rfl ?_
      refine J_icmp_ge (tgt := 145) hT dX6_valueOf_18 (by decide) (fun _ => ?_) (fun q => absurd (nI_le (a := j) (b := j) (Nat.le_refl _) (by have := hW.1; omega)) q)
      refine J_aload_n (i := 0) hT dX6_valueOf_145 rfl rfl ?_
      refine R_getP hT fX6_41 rfl dX6_valueOf_146 hB.k hB.p5 ?_
      refine J_iconst (v := 0) hT dX6_valueOf_149 rfl ?_
      refine R_iald hT dX6_valueOf_150 hB.k7 hB.l7 ⟨rfl, by decide⟩ ?_
      exact J_iret hT dX6_valueOf_151 rfl rfl (⟨by
          have hl : (evP S w j).length = 1 := by rw [evP_len S hW.2.2]; exact hW.2.1
          obtain ⟨x, hx⟩ := List.length_eq_one_iff.mp hl
          rw [hx] at hrow ⊢
          exact congrArg (fun z => some (Value.int z)) hrow.2, σ1, rfl, hσ1⟩) (Nat.le_refl _) (Nat.le_refl _)
    | succ m0 ih =>
      intro j hi
      intro σ1 hσ1 hrow
      have hjn : j < n := by omega
      obtain ⟨htok, har⟩ := hW.2.2 j hjn
      have hlen : (evP S w j).length = dpt w j := evP_len S (fun k hk => hW.2.2 k (by omega))
      have hle := dpt_le w j
      have hib := evP_ib hX (w := w) (n := j) (fun k hk => (hW.2.2 k (by omega)).1)
      have hn30 := hW.1
      have hcd : σ1 ca j = enc (w j) := by rw [hσ1 _ _ (by omega)]; exact hcode j hjn
      have hen9 := en_lt htok
      have heo14 := eo_lt htok
      have htk15 : enc (w j) &&& 15 = nI (eo (w j)) := by rw [enc_eq htok, nI_and15 (by omega)]; congr 1; omega
      have htk4 : enc (w j) >>> ((4 : Int32) &&& 31) = nI (en (w j)) := by rw [enc_eq htok, nI_shr4 (by omega)]; congr 1; omega
      have hnx : evP S w (j + 1) = evS S (w j) (evP S w j) := rfl
      have hM1 : mo t μ σ1 π S := ⟨hM.1.row ht hσ1, hM.2⟩
      have tail : ∀ (v : Int) (s' : List Int) (m : Nat), -9223372036854775808 ≤ v → v < 9223372036854775808 → m = s'.length → m ≤ 30 → zRw σ1 (t + 7) s' → evP S w (j + 1) = clampI v :: s' → zJ τ (zFn τ (fun r μ' => r = some (.int (Int32.ofInt ((evP S w n).headD 0))) ∧ ∃ σ', μ' = zA4 μ σ' π g ∧ ∀ b j, b ≠ t + 7 → σ' b j = σ b j) 0 0) 123 [some (.ref t), some (.ref f), some (.int (nI m)), some (.ref ca), some (.int (nI n)), some (.int (nI j)), some (.int (enc (w j))), some (.int (nI (eo (w j)))), some (.int (nI (ar (w j)))), none, none] [.long (lI v)] (zA4 μ σ1 π g) 0 0 := by
        intro v s' m hv1 hv2 hm h30 hr he
        refine S_lstore9 hT dX6_valueOf_123 rfl ?_
        refine J_aload_n (i := 0) hT dX6_valueOf_125 rfl rfl ?_
        refine R_getP hT fX6_41 rfl dX6_valueOf_126 hB.k hB.p5 ?_
        refine J_iload_n (i := 2) hT dX6_valueOf_129 rfl rfl ?_
        refine J_lload (i := 9) hT dX6_valueOf_130 rfl ?_
        refine R_callS1 hY dX6_valueOf_132 mfX8_within mtX8_within kX6_242 (c_X8_within hZ hv1 hv2) rfl (by decide) rfl rfl (Nat.le_of_ble_eq_true rfl) (Nat.le_refl _) (Nat.le_refl _) ?_
        refine R_iast hT dX6_valueOf_135 hB.k7 hB.l7 (zix_nI (j := m) (by omega) (by decide)) ?_
        refine S_iinc2 hT dX6_valueOf_136 (nI_inc _) rfl ?_
        refine S_iinc5 hT dX6_valueOf_139 (nI_inc _) rfl ?_
        refine J_goto (tgt := 14) hT dX6_valueOf_142 (by decide) ?_
        refine J_L (L' := [_, _, _, _, _, _, none, none, none, none, none]) (zsub_keep (zsub_keep (zsub_keep (zsub_keep (zsub_keep (zsub_keep (zsub_drop (zsub_drop (zsub_drop (zsub_drop (zsub_drop zsub_nil))))))))))) ?_
        subst hm
        have hj1 := ih (j + 1) (by omega) (zu σ1 (t + 7) s'.length (Int32.ofInt (clampI v))) (fun b i hb => by rw [zu_ne _ _ _ _ hb]; exact hσ1 b i hb) (by
          rw [he]
          exact ⟨hr.mv (fun i hi => zu_n _ _ _ _ (by omega)), zu_eq _ _ _ _⟩)
        rw [he] at hj1
        exact hj1
      have mid : ∀ D : Nat, D = (evP S w j).length - ar (w j) → D ≤ 30 → zJ τ (zFn τ (fun r μ' => r = some (.int (Int32.ofInt ((evP S w n).headD 0))) ∧ ∃ σ', μ' = zA4 μ σ' π g ∧ ∀ b j, b ≠ t + 7 → σ' b j = σ b j) 0 0) 77 [some (.ref t), some (.ref f), some (.int (nI D)), some (.ref ca), some (.int (nI n)), some (.int (nI j)), some (.int (enc (w j))), some (.int (nI (eo (w j)))), some (.int (nI (ar (w j)))), none, none] [] (zA4 μ σ1 π g) 0 0 := by
        intro D hD h30
        unfold evS at hnx
        by_cases h3 : w j < 30000
        · rw [if_pos h3] at hnx
          have har0 : ar (w j) = 0 := by unfold ar; rw [if_pos h3]
          have hop := opnd_ib hX htok h3
          have hDs : D = (evP S w j).length := by omega
          have hcl2 : clampI (opnd S (w j)) = opnd S (w j) := by unfold ib at hop; unfold clampI; rw [if_neg (by omega), if_neg (by omega)]
          have fin : ∀ v : Int32, v.toInt = opnd S (w j) → zJ τ (zFn τ (fun r μ' => r = some (.int (Int32.ofInt ((evP S w n).headD 0))) ∧ ∃ σ', μ' = zA4 μ σ' π g ∧ ∀ b j, b ≠ t + 7 → σ' b j = σ b j) 0 0) 123 [some (.ref t), some (.ref f), some (.int (nI D)), some (.ref ca), some (.int (nI n)), some (.int (nI j)), some (.int (enc (w j))), some (.int (nI (eo (w j)))), some (.int (nI (ar (w j)))), none, none] [.long (lI v.toInt)] (zA4 μ σ1 π g) 0 0 := by
            intro v hv
            have := Int32.le_toInt v
            have := Int32.toInt_lt v
            exact tail v.toInt (evP S w j) D (by omega) (by omega) hDs h30 hrow (by rw [hnx, hv, hcl2])
          have e4 : w j < 20000 ∨ (∃ q, q < 12 ∧ w j = 20000 + q) ∨ (∃ q, q < 5 ∧ w j = 21000 + q) ∨ (∃ q, q < 5 ∧ w j = 22000 + q) := by
            unfold tokR at htok
            rcases htok with h | h | h | h | h
            · exact Or.inl (by omega)
            · exact Or.inr (Or.inl ⟨w j - 20000, by omega, by omega⟩)
            · exact Or.inr (Or.inr (Or.inl ⟨w j - 21000, by omega, by omega⟩))
            · exact Or.inr (Or.inr (Or.inr ⟨w j - 22000, by omega, by omega⟩))
            · omega
          rcases e4 with e | ⟨q, hq, e⟩ | ⟨q, hq, e⟩ | ⟨q, hq, e⟩
          · have heo : eo (w j) = 0 := by unfold eo; rw [if_pos e]
            have hen : en (w j) = w j := by unfold en; rw [if_pos e]
            refine J_iload (i := 8) hT dX6_valueOf_77 rfl ?_
            refine J_if_ne (tgt := 96) hT dX6_valueOf_79 (by decide) (fun q => absurd ((by rw [har0]; rfl)) q) (fun _ => ?_)
            refine J_aload_n (i := 0) hT dX6_valueOf_82 rfl rfl ?_
            refine J_iload (i := 7) hT dX6_valueOf_83 rfl ?_
            refine J_topil ((show nI (eo (w j)) = 0 by rw [heo]; rfl)) ?_
            refine J_iload (i := 6) hT dX6_valueOf_85 rfl ?_
            refine J_iconst (v := 4) hT dX6_valueOf_87 rfl ?_
            refine J_ishr hT dX6_valueOf_88 ?_
            refine J_topil ((htk4.trans (by rw [hen]))) ?_
            refine R_callV1 (ci := 6) hY dX6_valueOf_89 mfX6_valueNamed miX6_valueNamed msX6_valueNamed kX6_235 ⟨by decide, rfl⟩ hB.k (c_X6_valueNamed0 hZ ht hM1) rfl (by decide) rfl rfl (Nat.le_of_ble_eq_true rfl) (Nat.le_refl _) (Nat.le_refl _) ?_
            refine J_i2l hT dX6_valueOf_92 ?_
            refine J_topll (lI_i _) ?_
            refine J_goto (tgt := 123) hT dX6_valueOf_93 (by decide) ?_
            exact fin _ (by rw [nI_toInt (by unfold tokR at htok; omega)]; unfold opnd; rw [if_pos e])
          · have heo : eo (w j) = 1 := by rw [e]; unfold eo; rw [if_neg (by omega), if_pos (by omega)]
            have hen : en (w j) = q := by rw [e]; unfold en; rw [if_neg (by omega), if_pos (by omega)]; omega
            refine J_iload (i := 8) hT dX6_valueOf_77 rfl ?_
            refine J_if_ne (tgt := 96) hT dX6_valueOf_79 (by decide) (fun q => absurd ((by rw [har0]; rfl)) q) (fun _ => ?_)
            refine J_aload_n (i := 0) hT dX6_valueOf_82 rfl rfl ?_
            refine J_iload (i := 7) hT dX6_valueOf_83 rfl ?_
            refine J_topil ((show nI (eo (w j)) = 1 by rw [heo]; rfl)) ?_
            refine J_iload (i := 6) hT dX6_valueOf_85 rfl ?_
            refine J_iconst (v := 4) hT dX6_valueOf_87 rfl ?_
            refine J_ishr hT dX6_valueOf_88 ?_
            refine J_topil ((htk4.trans (by rw [hen]))) ?_
            refine R_callV1 (ci := 6) hY dX6_valueOf_89 mfX6_valueNamed miX6_valueNamed msX6_valueNamed kX6_235 ⟨by decide, rfl⟩ hB.k (c_X6_valueNamed1 hZ ht hM1 hq) rfl (by decide) rfl rfl (Nat.le_of_ble_eq_true rfl) (Nat.le_refl _) (Nat.le_refl _) ?_
            refine J_i2l hT dX6_valueOf_92 ?_
            refine J_topll (lI_i _) ?_
            refine J_goto (tgt := 123) hT dX6_valueOf_93 (by decide) ?_
            exact fin _ (by rw [e]; unfold opnd; rw [if_neg (by omega), if_pos (by omega)]; congr 2; omega)
          · have heo : eo (w j) = 2 := by rw [e]; unfold eo; rw [if_neg (by omega), if_neg (by omega), if_pos (by omega)]
            have hen : en (w j) = q := by rw [e]; unfold en; rw [if_neg (by omega), if_neg (by omega), if_pos (by omega)]; omega
            refine J_iload (i := 8) hT dX6_valueOf_77 rfl ?_
            refine J_if_ne (tgt := 96) hT dX6_valueOf_79 (by decide) (fun q => absurd ((by rw [har0]; rfl)) q) (fun _ => ?_)
            refine J_aload_n (i := 0) hT dX6_valueOf_82 rfl rfl ?_
            refine J_iload (i := 7) hT dX6_valueOf_83 rfl ?_
            refine J_topil ((show nI (eo (w j)) = 2 by rw [heo]; rfl)) ?_
            refine J_iload (i := 6) hT dX6_valueOf_85 rfl ?_
            refine J_iconst (v := 4) hT dX6_valueOf_87 rfl ?_
            refine J_ishr hT dX6_valueOf_88 ?_
            refine J_topil ((htk4.trans (by rw [hen]))) ?_
            refine R_callV1 (ci := 6) hY dX6_valueOf_89 mfX6_valueNamed miX6_valueNamed msX6_valueNamed kX6_235 ⟨by decide, rfl⟩ hB.k (c_X6_valueNamed2 hZ ht hM1 hq) rfl (by decide) rfl rfl (Nat.le_of_ble_eq_true rfl) (Nat.le_refl _) (Nat.le_refl _) ?_
            refine J_i2l hT dX6_valueOf_92 ?_
            refine J_topll (lI_i _) ?_
            refine J_goto (tgt := 123) hT dX6_valueOf_93 (by decide) ?_
            exact fin _ (by rw [e]; unfold opnd; rw [if_neg (by omega), if_neg (by omega), if_pos (by omega)]; congr 2; omega)
          · have heo : eo (w j) = 3 := by rw [e]; unfold eo; rw [if_neg (by omega), if_neg (by omega), if_neg (by omega), if_pos (by omega)]
            have hen : en (w j) = q := by rw [e]; unfold en; rw [if_neg (by omega), if_neg (by omega), if_neg (by omega), if_pos (by omega)]; omega
            refine J_iload (i := 8) hT dX6_valueOf_77 rfl ?_
            refine J_if_ne (tgt := 96) hT dX6_valueOf_79 (by decide) (fun q => absurd ((by rw [har0]; rfl)) q) (fun _ => ?_)
            refine J_aload_n (i := 0) hT dX6_valueOf_82 rfl rfl ?_
            refine J_iload (i := 7) hT dX6_valueOf_83 rfl ?_
            refine J_topil ((show nI (eo (w j)) = 3 by rw [heo]; rfl)) ?_
            refine J_iload (i := 6) hT dX6_valueOf_85 rfl ?_
            refine J_iconst (v := 4) hT dX6_valueOf_87 rfl ?_
            refine J_ishr hT dX6_valueOf_88 ?_
            refine J_topil ((htk4.trans (by rw [hen]))) ?_
            refine R_callV1 (ci := 6) hY dX6_valueOf_89 mfX6_valueNamed miX6_valueNamed msX6_valueNamed kX6_235 ⟨by decide, rfl⟩ hB.k (c_X6_valueNamed3 hZ ht hM1 hq) rfl (by decide) rfl rfl (Nat.le_of_ble_eq_true rfl) (Nat.le_refl _) (Nat.le_refl _) ?_
            refine J_i2l hT dX6_valueOf_92 ?_
            refine J_topll (lI_i _) ?_
            refine J_goto (tgt := 123) hT dX6_valueOf_93 (by decide) ?_
            exact fin _ (by rw [e]; unfold opnd; rw [if_neg (by omega), if_neg (by omega), if_neg (by omega)]; congr 2; omega)
        · rw [if_neg h3] at hnx
          have htk : 30001 ≤ w j ∧ w j ≤ 30010 := by unfold tokR at htok; omega
          obtain ⟨d, hd⟩ : ∃ d, w j = 30000 + d := ⟨w j - 30000, by omega⟩
          have heo : eo (w j) = d + 3 := by unfold eo; rw [if_neg (by omega), if_neg (by omega), if_neg (by omega), if_neg (by omega)]; omega
          rw [hd, show 30000 + d - 30000 = d by omega] at hnx
          have d10 : d = 1 ∨ d = 10 ∨ d = 2 ∨ d = 3 ∨ d = 4 ∨ d = 5 ∨ d = 6 ∨ d = 7 ∨ d = 8 ∨ d = 9 := by omega
          rcases d10 with rfl | rfl | d8
          · have hara : ar (w j) = 1 := by rw [hd]; rfl
            match hs : evP S w j with
            | [] => rw [hs] at hlen; simp at hlen; omega
            | x :: s2 =>
              rw [hs] at hrow hnx hD hib
              have hx := hib x (by simp)
              have hD2 : D = s2.length := by rw [hD, hara]; simp
              refine J_iload (i := 8) hT dX6_valueOf_77 rfl ?_
              refine J_if_ne (tgt := 96) hT dX6_valueOf_79 (by decide) (fun _ => ?_) (fun q => absurd q ((by rw [hara]; decide)))
              refine J_iload (i := 7) hT dX6_valueOf_96 rfl ?_
              refine J_topil ((show nI (eo (w j)) = 4 by rw [heo]; rfl)) ?_
              refine J_aload_n (i := 0) hT dX6_valueOf_98 rfl rfl ?_
              refine R_getP hT fX6_41 rfl dX6_valueOf_99 hB.k hB.p5 ?_
              refine J_iload_n (i := 2) hT dX6_valueOf_102 rfl rfl ?_
              refine R_iald hT dX6_valueOf_103 hB.k7 hB.l7 (zix_nI (j := D) (by omega) (by decide)) ?_
              refine J_topil ((show σ1 (t + 7) D = Int32.ofInt x by rw [hD2]; exact hrow.2)) ?_
              refine J_aload_n (i := 0) hT dX6_valueOf_104 rfl rfl ?_
              refine R_getP hT fX6_41 rfl dX6_valueOf_105 hB.k hB.p5 ?_
              refine J_iload_n (i := 2) hT dX6_valueOf_108 rfl rfl ?_
              refine J_iconst (v := 1) hT dX6_valueOf_109 rfl ?_
              refine J_iadd hT dX6_valueOf_110 ?_
              refine J_topil ((nI_ad D 1)) ?_
              refine R_iald hT dX6_valueOf_111 hB.k7 hB.l7 (zix_nI (j := D + 1) (by omega) (by decide)) ?_
              refine J_aload_n (i := 0) hT dX6_valueOf_112 rfl rfl ?_
              refine R_getP hT fX6_41 rfl dX6_valueOf_113 hB.k hB.p5 ?_
              refine J_iload_n (i := 2) hT dX6_valueOf_116 rfl rfl ?_
              refine J_iconst (v := 2) hT dX6_valueOf_117 rfl ?_
              refine J_iadd hT dX6_valueOf_118 ?_
              refine J_topil ((nI_ad D 2)) ?_
              refine R_iald hT dX6_valueOf_119 hB.k7 hB.l7 (zix_nI (j := D + 2) (by omega) (by decide)) ?_
              refine R_callS1 hY dX6_valueOf_120 mfX6_combine mtX6_combine kX6_238 (c_X6_combine4 hZ hx) rfl (by decide) rfl rfl (Nat.le_of_ble_eq_true rfl) (Nat.le_refl _) (Nat.le_refl _) ?_
              exact tail (-x) s2 D (by unfold ib at hx; omega) (by unfold ib at hx; omega) hD2 h30 hrow.1 (by rw [hnx, clampI_id (by unfold ib at hx ⊢; omega)]; simp [evD])
          · have hara : ar (w j) = 3 := by rw [hd]; rfl
            match hs : evP S w j with
            | [] => rw [hs] at hlen; simp at hlen; omega
            | [x] => rw [hs] at hlen; simp at hlen; omega
            | [x, y] => rw [hs] at hlen; simp at hlen; omega
            | x :: a :: q :: s2 =>
              rw [hs] at hrow hnx hD hib
              have hx := hib x (by simp)
              have ha := hib a (by simp)
              have hq := hib q (by simp)
              have hD2 : D = s2.length := by rw [hD, hara]; simp
              refine J_iload (i := 8) hT dX6_valueOf_77 rfl ?_
              refine J_if_ne (tgt := 96) hT dX6_valueOf_79 (by decide) (fun _ => ?_) (fun q => absurd q ((by rw [hara]; decide)))
              refine J_iload (i := 7) hT dX6_valueOf_96 rfl ?_
              refine J_topil ((show nI (eo (w j)) = 13 by rw [heo]; rfl)) ?_
              refine J_aload_n (i := 0) hT dX6_valueOf_98 rfl rfl ?_
              refine R_getP hT fX6_41 rfl dX6_valueOf_99 hB.k hB.p5 ?_
              refine J_iload_n (i := 2) hT dX6_valueOf_102 rfl rfl ?_
              refine R_iald hT dX6_valueOf_103 hB.k7 hB.l7 (zix_nI (j := D) (by omega) (by decide)) ?_
              refine J_topil ((show σ1 (t + 7) D = Int32.ofInt q by rw [hD2]; exact hrow.1.1.2)) ?_
              refine J_aload_n (i := 0) hT dX6_valueOf_104 rfl rfl ?_
              refine R_getP hT fX6_41 rfl dX6_valueOf_105 hB.k hB.p5 ?_
              refine J_iload_n (i := 2) hT dX6_valueOf_108 rfl rfl ?_
              refine J_iconst (v := 1) hT dX6_valueOf_109 rfl ?_
              refine J_iadd hT dX6_valueOf_110 ?_
              refine J_topil ((nI_ad D 1)) ?_
              refine R_iald hT dX6_valueOf_111 hB.k7 hB.l7 (zix_nI (j := D + 1) (by omega) (by decide)) ?_
              refine J_topil ((show σ1 (t + 7) (D + 1) = Int32.ofInt a by rw [hD2]; exact hrow.1.2)) ?_
              refine J_aload_n (i := 0) hT dX6_valueOf_112 rfl rfl ?_
              refine R_getP hT fX6_41 rfl dX6_valueOf_113 hB.k hB.p5 ?_
              refine J_iload_n (i := 2) hT dX6_valueOf_116 rfl rfl ?_
              refine J_iconst (v := 2) hT dX6_valueOf_117 rfl ?_
              refine J_iadd hT dX6_valueOf_118 ?_
              refine J_topil ((nI_ad D 2)) ?_
              refine R_iald hT dX6_valueOf_119 hB.k7 hB.l7 (zix_nI (j := D + 2) (by omega) (by decide)) ?_
              refine J_topil ((show σ1 (t + 7) (D + 2) = Int32.ofInt x by rw [hD2]; exact hrow.2)) ?_
              refine R_callS1 hY dX6_valueOf_120 mfX6_combine mtX6_combine kX6_238 (c_X6_combine13 hZ hq ha hx) rfl (by decide) rfl rfl (Nat.le_of_ble_eq_true rfl) (Nat.le_refl _) (Nat.le_refl _) ?_
              exact tail (if 0 < q then a else x) s2 D (by unfold ib at hx ha; split <;> omega) (by unfold ib at hx ha; split <;> omega) hD2 h30 hrow.1.1.1 (by rw [hnx, clampI_id (by unfold ib at hx ha ⊢; split <;> omega)]; simp [evD])
          · have hara : ar (w j) = 2 := by rw [hd]; unfold ar; rw [if_neg (by omega), if_neg (by omega), if_neg (by omega)]
            match hs : evP S w j with
            | [] => rw [hs] at hlen; simp at hlen; omega
            | [x] => rw [hs] at hlen; simp at hlen; omega
            | x :: a :: s2 =>
              rw [hs] at hrow hnx hD hib
              have hx := hib x (by simp)
              have ha := hib a (by simp)
              have hD2 : D = s2.length := by rw [hD, hara]; simp
              have hev : evD d (x :: a :: s2) = clampI (binI d a x) :: s2 := by simp [evD, show ¬ d = 1 by omega, show ¬ d = 10 by omega]
              rw [hev] at hnx
              rcases d8 with rfl | rfl | rfl | rfl | rfl | rfl | rfl | rfl
              · refine J_iload (i := 8) hT dX6_valueOf_77 rfl ?_
                refine J_if_ne (tgt := 96) hT dX6_valueOf_79 (by decide) (fun _ => ?_) (fun q => absurd q ((by rw [hara]; decide)))
                refine J_iload (i := 7) hT dX6_valueOf_96 rfl ?_
                refine J_topil ((show nI (eo (w j)) = 5 by rw [heo]; rfl)) ?_
                refine J_aload_n (i := 0) hT dX6_valueOf_98 rfl rfl ?_
                refine R_getP hT fX6_41 rfl dX6_valueOf_99 hB.k hB.p5 ?_
                refine J_iload_n (i := 2) hT dX6_valueOf_102 rfl rfl ?_
                refine R_iald hT dX6_valueOf_103 hB.k7 hB.l7 (zix_nI (j := D) (by omega) (by decide)) ?_
                refine J_topil ((show σ1 (t + 7) D = Int32.ofInt a by rw [hD2]; exact hrow.1.2)) ?_
                refine J_aload_n (i := 0) hT dX6_valueOf_104 rfl rfl ?_
                refine R_getP hT fX6_41 rfl dX6_valueOf_105 hB.k hB.p5 ?_
                refine J_iload_n (i := 2) hT dX6_valueOf_108 rfl rfl ?_
                refine J_iconst (v := 1) hT dX6_valueOf_109 rfl ?_
                refine J_iadd hT dX6_valueOf_110 ?_
                refine J_topil ((nI_ad D 1)) ?_
                refine R_iald hT dX6_valueOf_111 hB.k7 hB.l7 (zix_nI (j := D + 1) (by omega) (by decide)) ?_
                refine J_topil ((show σ1 (t + 7) (D + 1) = Int32.ofInt x by rw [hD2]; exact hrow.2)) ?_
                refine J_aload_n (i := 0) hT dX6_valueOf_112 rfl rfl ?_
                refine R_getP hT fX6_41 rfl dX6_valueOf_113 hB.k hB.p5 ?_
                refine J_iload_n (i := 2) hT dX6_valueOf_116 rfl rfl ?_
                refine J_iconst (v := 2) hT dX6_valueOf_117 rfl ?_
                refine J_iadd hT dX6_valueOf_118 ?_
                refine J_topil ((nI_ad D 2)) ?_
                refine R_iald hT dX6_valueOf_119 hB.k7 hB.l7 (zix_nI (j := D + 2) (by omega) (by decide)) ?_
                refine R_callS1 hY dX6_valueOf_120 mfX6_combine mtX6_combine kX6_238 (c_X6_combine5 hZ ha hx) rfl (by decide) rfl rfl (Nat.le_of_ble_eq_true rfl) (Nat.le_refl _) (Nat.le_refl _) ?_
                exact tail (a + x) s2 D (by unfold ib at hx ha; omega) (by unfold ib at hx ha; omega) hD2 h30 hrow.1.1 (hnx)
              · refine J_iload (i := 8) hT dX6_valueOf_77 rfl ?_
                refine J_if_ne (tgt := 96) hT dX6_valueOf_79 (by decide) (fun _ => ?_) (fun q => absurd q ((by rw [hara]; decide)))
                refine J_iload (i := 7) hT dX6_valueOf_96 rfl ?_
                refine J_topil ((show nI (eo (w j)) = 6 by rw [heo]; rfl)) ?_
                refine J_aload_n (i := 0) hT dX6_valueOf_98 rfl rfl ?_
                refine R_getP hT fX6_41 rfl dX6_valueOf_99 hB.k hB.p5 ?_
                refine J_iload_n (i := 2) hT dX6_valueOf_102 rfl rfl ?_
                refine R_iald hT dX6_valueOf_103 hB.k7 hB.l7 (zix_nI (j := D) (by omega) (by decide)) ?_
                refine J_topil ((show σ1 (t + 7) D = Int32.ofInt a by rw [hD2]; exact hrow.1.2)) ?_
                refine J_aload_n (i := 0) hT dX6_valueOf_104 rfl rfl ?_
                refine R_getP hT fX6_41 rfl dX6_valueOf_105 hB.k hB.p5 ?_
                refine J_iload_n (i := 2) hT dX6_valueOf_108 rfl rfl ?_
                refine J_iconst (v := 1) hT dX6_valueOf_109 rfl ?_
                refine J_iadd hT dX6_valueOf_110 ?_
                refine J_topil ((nI_ad D 1)) ?_
                refine R_iald hT dX6_valueOf_111 hB.k7 hB.l7 (zix_nI (j := D + 1) (by omega) (by decide)) ?_
                refine J_topil ((show σ1 (t + 7) (D + 1) = Int32.ofInt x by rw [hD2]; exact hrow.2)) ?_
                refine J_aload_n (i := 0) hT dX6_valueOf_112 rfl rfl ?_
                refine R_getP hT fX6_41 rfl dX6_valueOf_113 hB.k hB.p5 ?_
                refine J_iload_n (i := 2) hT dX6_valueOf_116 rfl rfl ?_
                refine J_iconst (v := 2) hT dX6_valueOf_117 rfl ?_
                refine J_iadd hT dX6_valueOf_118 ?_
                refine J_topil ((nI_ad D 2)) ?_
                refine R_iald hT dX6_valueOf_119 hB.k7 hB.l7 (zix_nI (j := D + 2) (by omega) (by decide)) ?_
                refine R_callS1 hY dX6_valueOf_120 mfX6_combine mtX6_combine kX6_238 (c_X6_combine6 hZ ha hx) rfl (by decide) rfl rfl (Nat.le_of_ble_eq_true rfl) (Nat.le_refl _) (Nat.le_refl _) ?_
                exact tail (a - x) s2 D (by unfold ib at hx ha; omega) (by unfold ib at hx ha; omega) hD2 h30 hrow.1.1 (hnx)
              · refine J_iload (i := 8) hT dX6_valueOf_77 rfl ?_
                refine J_if_ne (tgt := 96) hT dX6_valueOf_79 (by decide) (fun _ => ?_) (fun q => absurd q ((by rw [hara]; decide)))
                refine J_iload (i := 7) hT dX6_valueOf_96 rfl ?_
                refine J_topil ((show nI (eo (w j)) = 7 by rw [heo]; rfl)) ?_
                refine J_aload_n (i := 0) hT dX6_valueOf_98 rfl rfl ?_
                refine R_getP hT fX6_41 rfl dX6_valueOf_99 hB.k hB.p5 ?_
                refine J_iload_n (i := 2) hT dX6_valueOf_102 rfl rfl ?_
                refine R_iald hT dX6_valueOf_103 hB.k7 hB.l7 (zix_nI (j := D) (by omega) (by decide)) ?_
                refine J_topil ((show σ1 (t + 7) D = Int32.ofInt a by rw [hD2]; exact hrow.1.2)) ?_
                refine J_aload_n (i := 0) hT dX6_valueOf_104 rfl rfl ?_
                refine R_getP hT fX6_41 rfl dX6_valueOf_105 hB.k hB.p5 ?_
                refine J_iload_n (i := 2) hT dX6_valueOf_108 rfl rfl ?_
                refine J_iconst (v := 1) hT dX6_valueOf_109 rfl ?_
                refine J_iadd hT dX6_valueOf_110 ?_
                refine J_topil ((nI_ad D 1)) ?_
                refine R_iald hT dX6_valueOf_111 hB.k7 hB.l7 (zix_nI (j := D + 1) (by omega) (by decide)) ?_
                refine J_topil ((show σ1 (t + 7) (D + 1) = Int32.ofInt x by rw [hD2]; exact hrow.2)) ?_
                refine J_aload_n (i := 0) hT dX6_valueOf_112 rfl rfl ?_
                refine R_getP hT fX6_41 rfl dX6_valueOf_113 hB.k hB.p5 ?_
                refine J_iload_n (i := 2) hT dX6_valueOf_116 rfl rfl ?_
                refine J_iconst (v := 2) hT dX6_valueOf_117 rfl ?_
                refine J_iadd hT dX6_valueOf_118 ?_
                refine J_topil ((nI_ad D 2)) ?_
                refine R_iald hT dX6_valueOf_119 hB.k7 hB.l7 (zix_nI (j := D + 2) (by omega) (by decide)) ?_
                refine R_callS1 hY dX6_valueOf_120 mfX6_combine mtX6_combine kX6_238 (c_X6_combine7 hZ ha hx) rfl (by decide) rfl rfl (Nat.le_of_ble_eq_true rfl) (Nat.le_refl _) (Nat.le_refl _) ?_
                exact tail (a * x) s2 D (mul_ib ha hx).1 (mul_ib ha hx).2 hD2 h30 hrow.1.1 hnx
              · refine J_iload (i := 8) hT dX6_valueOf_77 rfl ?_
                refine J_if_ne (tgt := 96) hT dX6_valueOf_79 (by decide) (fun _ => ?_) (fun q => absurd q ((by rw [hara]; decide)))
                refine J_iload (i := 7) hT dX6_valueOf_96 rfl ?_
                refine J_topil ((show nI (eo (w j)) = 8 by rw [heo]; rfl)) ?_
                refine J_aload_n (i := 0) hT dX6_valueOf_98 rfl rfl ?_
                refine R_getP hT fX6_41 rfl dX6_valueOf_99 hB.k hB.p5 ?_
                refine J_iload_n (i := 2) hT dX6_valueOf_102 rfl rfl ?_
                refine R_iald hT dX6_valueOf_103 hB.k7 hB.l7 (zix_nI (j := D) (by omega) (by decide)) ?_
                refine J_topil ((show σ1 (t + 7) D = Int32.ofInt a by rw [hD2]; exact hrow.1.2)) ?_
                refine J_aload_n (i := 0) hT dX6_valueOf_104 rfl rfl ?_
                refine R_getP hT fX6_41 rfl dX6_valueOf_105 hB.k hB.p5 ?_
                refine J_iload_n (i := 2) hT dX6_valueOf_108 rfl rfl ?_
                refine J_iconst (v := 1) hT dX6_valueOf_109 rfl ?_
                refine J_iadd hT dX6_valueOf_110 ?_
                refine J_topil ((nI_ad D 1)) ?_
                refine R_iald hT dX6_valueOf_111 hB.k7 hB.l7 (zix_nI (j := D + 1) (by omega) (by decide)) ?_
                refine J_topil ((show σ1 (t + 7) (D + 1) = Int32.ofInt x by rw [hD2]; exact hrow.2)) ?_
                refine J_aload_n (i := 0) hT dX6_valueOf_112 rfl rfl ?_
                refine R_getP hT fX6_41 rfl dX6_valueOf_113 hB.k hB.p5 ?_
                refine J_iload_n (i := 2) hT dX6_valueOf_116 rfl rfl ?_
                refine J_iconst (v := 2) hT dX6_valueOf_117 rfl ?_
                refine J_iadd hT dX6_valueOf_118 ?_
                refine J_topil ((nI_ad D 2)) ?_
                refine R_iald hT dX6_valueOf_119 hB.k7 hB.l7 (zix_nI (j := D + 2) (by omega) (by decide)) ?_
                refine R_callS1 hY dX6_valueOf_120 mfX6_combine mtX6_combine kX6_238 (c_X6_combine8 hZ ha hx) rfl (by decide) rfl rfl (Nat.le_of_ble_eq_true rfl) (Nat.le_refl _) (Nat.le_refl _) ?_
                exact tail (if a < x then 1 else 0) s2 D (by unfold ib at hx ha; split <;> omega) (by unfold ib at hx ha; split <;> omega) hD2 h30 hrow.1.1 (hnx)
              · refine J_iload (i := 8) hT dX6_valueOf_77 rfl ?_
                refine J_if_ne (tgt := 96) hT dX6_valueOf_79 (by decide) (fun _ => ?_) (fun q => absurd q ((by rw [hara]; decide)))
                refine J_iload (i := 7) hT dX6_valueOf_96 rfl ?_
                refine J_topil ((show nI (eo (w j)) = 9 by rw [heo]; rfl)) ?_
                refine J_aload_n (i := 0) hT dX6_valueOf_98 rfl rfl ?_
                refine R_getP hT fX6_41 rfl dX6_valueOf_99 hB.k hB.p5 ?_
                refine J_iload_n (i := 2) hT dX6_valueOf_102 rfl rfl ?_
                refine R_iald hT dX6_valueOf_103 hB.k7 hB.l7 (zix_nI (j := D) (by omega) (by decide)) ?_
                refine J_topil ((show σ1 (t + 7) D = Int32.ofInt a by rw [hD2]; exact hrow.1.2)) ?_
                refine J_aload_n (i := 0) hT dX6_valueOf_104 rfl rfl ?_
                refine R_getP hT fX6_41 rfl dX6_valueOf_105 hB.k hB.p5 ?_
                refine J_iload_n (i := 2) hT dX6_valueOf_108 rfl rfl ?_
                refine J_iconst (v := 1) hT dX6_valueOf_109 rfl ?_
                refine J_iadd hT dX6_valueOf_110 ?_
                refine J_topil ((nI_ad D 1)) ?_
                refine R_iald hT dX6_valueOf_111 hB.k7 hB.l7 (zix_nI (j := D + 1) (by omega) (by decide)) ?_
                refine J_topil ((show σ1 (t + 7) (D + 1) = Int32.ofInt x by rw [hD2]; exact hrow.2)) ?_
                refine J_aload_n (i := 0) hT dX6_valueOf_112 rfl rfl ?_
                refine R_getP hT fX6_41 rfl dX6_valueOf_113 hB.k hB.p5 ?_
                refine J_iload_n (i := 2) hT dX6_valueOf_116 rfl rfl ?_
                refine J_iconst (v := 2) hT dX6_valueOf_117 rfl ?_
                refine J_iadd hT dX6_valueOf_118 ?_
                refine J_topil ((nI_ad D 2)) ?_
                refine R_iald hT dX6_valueOf_119 hB.k7 hB.l7 (zix_nI (j := D + 2) (by omega) (by decide)) ?_
                refine R_callS1 hY dX6_valueOf_120 mfX6_combine mtX6_combine kX6_238 (c_X6_combine9 hZ ha hx) rfl (by decide) rfl rfl (Nat.le_of_ble_eq_true rfl) (Nat.le_refl _) (Nat.le_refl _) ?_
                exact tail (if x < a then 1 else 0) s2 D (by unfold ib at hx ha; split <;> omega) (by unfold ib at hx ha; split <;> omega) hD2 h30 hrow.1.1 (hnx)
              · refine J_iload (i := 8) hT dX6_valueOf_77 rfl ?_
                refine J_if_ne (tgt := 96) hT dX6_valueOf_79 (by decide) (fun _ => ?_) (fun q => absurd q ((by rw [hara]; decide)))
                refine J_iload (i := 7) hT dX6_valueOf_96 rfl ?_
                refine J_topil ((show nI (eo (w j)) = 10 by rw [heo]; rfl)) ?_
                refine J_aload_n (i := 0) hT dX6_valueOf_98 rfl rfl ?_
                refine R_getP hT fX6_41 rfl dX6_valueOf_99 hB.k hB.p5 ?_
                refine J_iload_n (i := 2) hT dX6_valueOf_102 rfl rfl ?_
                refine R_iald hT dX6_valueOf_103 hB.k7 hB.l7 (zix_nI (j := D) (by omega) (by decide)) ?_
                refine J_topil ((show σ1 (t + 7) D = Int32.ofInt a by rw [hD2]; exact hrow.1.2)) ?_
                refine J_aload_n (i := 0) hT dX6_valueOf_104 rfl rfl ?_
                refine R_getP hT fX6_41 rfl dX6_valueOf_105 hB.k hB.p5 ?_
                refine J_iload_n (i := 2) hT dX6_valueOf_108 rfl rfl ?_
                refine J_iconst (v := 1) hT dX6_valueOf_109 rfl ?_
                refine J_iadd hT dX6_valueOf_110 ?_
                refine J_topil ((nI_ad D 1)) ?_
                refine R_iald hT dX6_valueOf_111 hB.k7 hB.l7 (zix_nI (j := D + 1) (by omega) (by decide)) ?_
                refine J_topil ((show σ1 (t + 7) (D + 1) = Int32.ofInt x by rw [hD2]; exact hrow.2)) ?_
                refine J_aload_n (i := 0) hT dX6_valueOf_112 rfl rfl ?_
                refine R_getP hT fX6_41 rfl dX6_valueOf_113 hB.k hB.p5 ?_
                refine J_iload_n (i := 2) hT dX6_valueOf_116 rfl rfl ?_
                refine J_iconst (v := 2) hT dX6_valueOf_117 rfl ?_
                refine J_iadd hT dX6_valueOf_118 ?_
                refine J_topil ((nI_ad D 2)) ?_
                refine R_iald hT dX6_valueOf_119 hB.k7 hB.l7 (zix_nI (j := D + 2) (by omega) (by decide)) ?_
                refine R_callS1 hY dX6_valueOf_120 mfX6_combine mtX6_combine kX6_238 (c_X6_combine10 hZ ha hx) rfl (by decide) rfl rfl (Nat.le_of_ble_eq_true rfl) (Nat.le_refl _) (Nat.le_refl _) ?_
                exact tail (if a = x then 1 else 0) s2 D (by unfold ib at hx ha; split <;> omega) (by unfold ib at hx ha; split <;> omega) hD2 h30 hrow.1.1 (hnx)
              · refine J_iload (i := 8) hT dX6_valueOf_77 rfl ?_
                refine J_if_ne (tgt := 96) hT dX6_valueOf_79 (by decide) (fun _ => ?_) (fun q => absurd q ((by rw [hara]; decide)))
                refine J_iload (i := 7) hT dX6_valueOf_96 rfl ?_
                refine J_topil ((show nI (eo (w j)) = 11 by rw [heo]; rfl)) ?_
                refine J_aload_n (i := 0) hT dX6_valueOf_98 rfl rfl ?_
                refine R_getP hT fX6_41 rfl dX6_valueOf_99 hB.k hB.p5 ?_
                refine J_iload_n (i := 2) hT dX6_valueOf_102 rfl rfl ?_
                refine R_iald hT dX6_valueOf_103 hB.k7 hB.l7 (zix_nI (j := D) (by omega) (by decide)) ?_
                refine J_topil ((show σ1 (t + 7) D = Int32.ofInt a by rw [hD2]; exact hrow.1.2)) ?_
                refine J_aload_n (i := 0) hT dX6_valueOf_104 rfl rfl ?_
                refine R_getP hT fX6_41 rfl dX6_valueOf_105 hB.k hB.p5 ?_
                refine J_iload_n (i := 2) hT dX6_valueOf_108 rfl rfl ?_
                refine J_iconst (v := 1) hT dX6_valueOf_109 rfl ?_
                refine J_iadd hT dX6_valueOf_110 ?_
                refine J_topil ((nI_ad D 1)) ?_
                refine R_iald hT dX6_valueOf_111 hB.k7 hB.l7 (zix_nI (j := D + 1) (by omega) (by decide)) ?_
                refine J_topil ((show σ1 (t + 7) (D + 1) = Int32.ofInt x by rw [hD2]; exact hrow.2)) ?_
                refine J_aload_n (i := 0) hT dX6_valueOf_112 rfl rfl ?_
                refine R_getP hT fX6_41 rfl dX6_valueOf_113 hB.k hB.p5 ?_
                refine J_iload_n (i := 2) hT dX6_valueOf_116 rfl rfl ?_
                refine J_iconst (v := 2) hT dX6_valueOf_117 rfl ?_
                refine J_iadd hT dX6_valueOf_118 ?_
                refine J_topil ((nI_ad D 2)) ?_
                refine R_iald hT dX6_valueOf_119 hB.k7 hB.l7 (zix_nI (j := D + 2) (by omega) (by decide)) ?_
                refine R_callS1 hY dX6_valueOf_120 mfX6_combine mtX6_combine kX6_238 (c_X6_combine11 hZ ha hx) rfl (by decide) rfl rfl (Nat.le_of_ble_eq_true rfl) (Nat.le_refl _) (Nat.le_refl _) ?_
                exact tail (if x < a then a else x) s2 D (by unfold ib at hx ha; split <;> omega) (by unfold ib at hx ha; split <;> omega) hD2 h30 hrow.1.1 (hnx)
              · refine J_iload (i := 8) hT dX6_valueOf_77 rfl ?_
                refine J_if_ne (tgt := 96) hT dX6_valueOf_79 (by decide) (fun _ => ?_) (fun q => absurd q ((by rw [hara]; decide)))
                refine J_iload (i := 7) hT dX6_valueOf_96 rfl ?_
                refine J_topil ((show nI (eo (w j)) = 12 by rw [heo]; rfl)) ?_
                refine J_aload_n (i := 0) hT dX6_valueOf_98 rfl rfl ?_
                refine R_getP hT fX6_41 rfl dX6_valueOf_99 hB.k hB.p5 ?_
                refine J_iload_n (i := 2) hT dX6_valueOf_102 rfl rfl ?_
                refine R_iald hT dX6_valueOf_103 hB.k7 hB.l7 (zix_nI (j := D) (by omega) (by decide)) ?_
                refine J_topil ((show σ1 (t + 7) D = Int32.ofInt a by rw [hD2]; exact hrow.1.2)) ?_
                refine J_aload_n (i := 0) hT dX6_valueOf_104 rfl rfl ?_
                refine R_getP hT fX6_41 rfl dX6_valueOf_105 hB.k hB.p5 ?_
                refine J_iload_n (i := 2) hT dX6_valueOf_108 rfl rfl ?_
                refine J_iconst (v := 1) hT dX6_valueOf_109 rfl ?_
                refine J_iadd hT dX6_valueOf_110 ?_
                refine J_topil ((nI_ad D 1)) ?_
                refine R_iald hT dX6_valueOf_111 hB.k7 hB.l7 (zix_nI (j := D + 1) (by omega) (by decide)) ?_
                refine J_topil ((show σ1 (t + 7) (D + 1) = Int32.ofInt x by rw [hD2]; exact hrow.2)) ?_
                refine J_aload_n (i := 0) hT dX6_valueOf_112 rfl rfl ?_
                refine R_getP hT fX6_41 rfl dX6_valueOf_113 hB.k hB.p5 ?_
                refine J_iload_n (i := 2) hT dX6_valueOf_116 rfl rfl ?_
                refine J_iconst (v := 2) hT dX6_valueOf_117 rfl ?_
                refine J_iadd hT dX6_valueOf_118 ?_
                refine J_topil ((nI_ad D 2)) ?_
                refine R_iald hT dX6_valueOf_119 hB.k7 hB.l7 (zix_nI (j := D + 2) (by omega) (by decide)) ?_
                refine R_callS1 hY dX6_valueOf_120 mfX6_combine mtX6_combine kX6_238 (c_X6_combine12 hZ ha hx) rfl (by decide) rfl rfl (Nat.le_of_ble_eq_true rfl) (Nat.le_refl _) (Nat.le_refl _) ?_
                exact tail (if x < a then x else a) s2 D (by unfold ib at hx ha; split <;> omega) (by unfold ib at hx ha; split <;> omega) hD2 h30 hrow.1.1 (hnx)
      refine J_iload (i := 5) hT dX6_valueOf_14 rfl ?_
      refine J_iload (i := 4) hT dX6_valueOf_16 rfl ?_
      refine J_icmp_ge (tgt := 145) hT dX6_valueOf_18 (by decide) (fun q => absurd q (Int32.not_le.mpr (nI_lt (a := j) (b := n) (by omega) (by omega)))) (fun _ => ?_)
      refine J_aload_n (i := 3) hT dX6_valueOf_21 rfl rfl ?_
      refine J_iload (i := 5) hT dX6_valueOf_22 rfl ?_
      refine R_iald hT dX6_valueOf_24 hck hcl (zix_nI (j := j) (by omega) (by omega)) ?_
      refine J_topil (hcd) ?_
      refine S_istore6 hT dX6_valueOf_25 rfl ?_
      refine J_iload (i := 6) hT dX6_valueOf_27 rfl ?_
      refine J_bipush (v := 15) hT dX6_valueOf_29 rfl ?_
      refine J_iand hT dX6_valueOf_31 ?_
      refine J_topil (htk15) ?_
      refine S_istore7 hT dX6_valueOf_32 rfl ?_
      refine J_iload (i := 7) hT dX6_valueOf_34 rfl ?_
      refine J_opsLen hY hO fl6_232 dX6_valueOf_36 dX6_valueOf_39 ?_
      refine J_icmp_ge (tgt := 52) hT dX6_valueOf_40 (by decide) (fun q => absurd q (Int32.not_le.mpr (nI_lt (a := eo (w j)) (b := 14) heo14 (by decide)))) (fun _ => ?_)
      refine J_opsAt (i := 7) (j := eo (w j)) hY hO heo14 fl6_232 dX6_valueOf_43 dX6_valueOf_46 dX6_valueOf_48 rfl ?_
      refine J_topil (congrArg nI (ops_ar htok)) ?_
      refine J_goto (tgt := 53) hT dX6_valueOf_49 (by decide) ?_
      refine S_istore8 hT dX6_valueOf_53 rfl ?_
      refine J_iload_n (i := 2) hT dX6_valueOf_55 rfl rfl ?_
      refine J_iload (i := 8) hT dX6_valueOf_56 rfl ?_
      refine J_isub hT dX6_valueOf_58 ?_
      refine J_topil (nI_sub (a := (evP S w j).length) (b := ar (w j)) (by omega)) ?_
      refine S_istore2 hT dX6_valueOf_59 rfl rfl ?_
      refine J_iload_n (i := 2) hT dX6_valueOf_60 rfl rfl ?_
      refine J_if_lt (tgt := 75) hT dX6_valueOf_61 (by decide) (fun q => absurd q (nI_pos (by omega))) (fun _ => ?_)
      refine J_iload_n (i := 2) hT dX6_valueOf_64 rfl rfl ?_
      refine J_iconst (v := 2) hT dX6_valueOf_65 rfl ?_
      refine J_iadd hT dX6_valueOf_66 ?_
      refine J_topil ((nI_ad ((evP S w j).length - ar (w j)) 2)) ?_
      refine J_aload_n (i := 0) hT dX6_valueOf_67 rfl rfl ?_
      refine R_getP hT fX6_41 rfl dX6_valueOf_68 hB.k hB.p5 ?_
      refine R_alen hT dX6_valueOf_71 (by rw [hB.k7]; decide) hB.l7 ?_
      refine J_icmp_lt (tgt := 77) hT dX6_valueOf_72 (by decide) (fun _ => ?_) (fun q => absurd (nI_lt (a := (evP S w j).length - ar (w j) + 2) (b := 33) (by omega) (by decide)) q)
      exact mid _ rfl (by omega)
  refine J_iconst (v := 0) hT dX6_valueOf_0 rfl ?_
  refine S_istore2 hT dX6_valueOf_1 rfl rfl ?_
  refine J_aload_n (i := 1) hT dX6_valueOf_2 rfl rfl ?_
  refine R_getP hT fX6_229 rfl dX6_valueOf_3 hfk hca ?_
  refine S_astore3 hT dX6_valueOf_6 rfl rfl ?_
  refine J_aload_n (i := 3) hT dX6_valueOf_7 rfl rfl ?_
  refine R_alen hT dX6_valueOf_8 (by rw [hck]; decide) hcl ?_
  refine S_istore4 hT dX6_valueOf_9 rfl ?_
  refine J_iconst (v := 0) hT dX6_valueOf_11 rfl ?_
  refine S_istore5 hT dX6_valueOf_12 rfl ?_
  exact loop n 0 (by omega) σ (fun _ _ _ => rfl) trivial


