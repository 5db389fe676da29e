theorem mo.oth {t t' : Nat} (ht : ta t) (ht' : ta t') (hne : t ≠ t') {μ : zMem} {σ σ' : zS2} {π π' : zP2} {S : zS2} (h : mo t' μ σ π S) (h1 : zfT t σ σ') (h2 : zfP t π π') : mo t' μ σ' π' S := by
  have ho : ∀ b, (t' ≤ b ∧ b < t' + 30) ∨ (Im b ∧ b < zN μ) → ¬ zmu t b ∧ ∀ j, ¬ zmp t b j := fun b hb => by
    unfold ta at ht ht'
    unfold zmu zmp
    rcases hb with hb | ⟨hb, _⟩
    · exact ⟨by omega, fun j => by omega⟩
    · unfold Im at hb
      exact ⟨by omega, fun j => by omega⟩
  exact ⟨h.1.fr zgr.rf (fun b hb j => h1 b j (ho b hb).1) (fun b hb j => h2 b j ((ho b hb).2 j)), h.2.mv (fun j => h2 _ j ((ho _ (Or.inl (by omega))).2 j)) (fun _ _ => rfl)⟩
theorem clearF_at (S : zS2) {b : Nat} (h : b ∉ [88, 89, 90, 91, 92, 95, 96, 97, 67]) (j : Nat) : clearF S b j = S b j := by
  simp only [List.mem_cons, List.not_mem_nil, or_false, not_or] at h
  simp [clearF, clS, clP, zu, h]
theorem clearF_v (S : zS2) : (∀ c, c < 12 → clearF S 88 c = (if S 80 c = 0 then 0 else S 81 c) ∧ clearF S 89 c = (if S 80 c = 0 then 1 else 0)) ∧ (∀ s, s < 5 → clearF S 90 s = 0 ∧ clearF S 91 s = -1 ∧ clearF S 92 s = 0 ∧ clearF S 95 s = 0 ∧ clearF S 96 s = 0 ∧ clearF S 97 s = 0) ∧ clearF S 67 33 = 0 ∧ clearF S 67 34 = S 67 34 := by
  refine ⟨fun c hc => ⟨?_, ?_⟩, fun s hs => ⟨?_, ?_, ?_, ?_, ?_, ?_⟩, ?_, ?_⟩
  all_goals simp [clearF, clS, clP, zu, *]
def tkU (B T : zS2) (i : Nat) : zS2 := fun b j => if ((b = 80 ∨ b = 88 ∨ b = 89) ∧ j < i) ∨ (b = 74 ∧ j < 30 * i) ∨ ((75 ≤ b ∧ b ≤ 78) ∧ j < i) then T b j else B b j
def tkV (B T : zS2) (k : Nat) : zS2 := fun b j => if (82 ≤ b ∧ b ≤ 87) ∧ j < k then T b j else tkU B T 12 b j
def cpF (U S : zS2) (i : Nat) : zS2 := fun b j => if (b = 74 ∧ 30 * i ≤ j ∧ j < 30 * i + 30) ∨ ((75 ≤ b ∧ b ≤ 78) ∧ j = i) then S b j else U b j
theorem tkU_s {B T S : zS2} {i : Nat} (hT : ∀ b, b = 74 ∨ b = 75 ∨ b = 76 ∨ b = 77 ∨ b = 78 ∨ b = 80 → ∀ j, T b j = S b j) {x y z : Int32} (hx : x = T 80 i) (hy : y = T 88 i) (hz : z = T 89 i) : zu (zu (zu (cpF (tkU B T i) S i) 80 i x) 88 i y) 89 i z = tkU B T (i + 1) := by
  funext b j
  by_cases b74 : b = 74
  · subst b74
    simp only [zu, cpF, tkU]
    by_cases h1 : j < 30 * i
    · simp [h1, show j < 30 * (i + 1) by omega, show ¬ 30 * i ≤ j by omega]
    · by_cases h2 : j < 30 * i + 30
      · simp [h1, h2, show 30 * i ≤ j by omega, show j < 30 * (i + 1) by omega, hT 74 (by omega)]
      · simp [h1, h2, show ¬ j < 30 * (i + 1) by omega]
  · by_cases b75 : 75 ≤ b ∧ b ≤ 78
    · have n1 : ¬ b = 80 := by omega
      have n2 : ¬ b = 88 := by omega
      have n3 : ¬ b = 89 := by omega
      simp only [zu, cpF, tkU]
      by_cases e : j = i
      · subst e; simp [b74, b75, n1, n2, n3, hT b (by omega)]
      · have e2 : (j < i + 1) = (j < i) := by apply propext; constructor <;> omega
        simp only [e2]
        simp [b74, b75, n1, n2, n3, e]
    · simp only [zu, cpF, tkU]
      by_cases e : j = i
      · subst e
        by_cases e1 : b = 80
        · subst e1; simp [hx]
        · by_cases e2 : b = 88
          · subst e2; simp [hy]
          · by_cases e3 : b = 89
            · subst e3; simp [hz]
            · simp [b74, b75, e1, e2, e3]
      · have e2 : (j < i + 1) = (j < i) := by apply propext; constructor <;> omega
        simp only [e2]
        simp [b74, b75, e]
theorem tkV_s {B T S : zS2} {k : Nat} (hT : ∀ b, 82 ≤ b ∧ b ≤ 87 → ∀ j, T b j = S b j) : zu (zu (zu (zu (zu (zu (tkV B T k) 82 k (S 82 k)) 83 k (S 83 k)) 84 k (S 84 k)) 85 k (S 85 k)) 86 k (S 86 k)) 87 k (S 87 k) = tkV B T (k + 1) := by
  funext b j
  simp only [zu, tkV]
  by_cases e : j = k
  · subst e
    by_cases h : 82 ≤ b ∧ b ≤ 87
    · have hb : b = 82 ∨ b = 83 ∨ b = 84 ∨ b = 85 ∨ b = 86 ∨ b = 87 := by omega
      rcases hb with rfl | rfl | rfl | rfl | rfl | rfl
      · simp [hT 82 (by omega)]
      · simp [hT 83 (by omega)]
      · simp [hT 84 (by omega)]
      · simp [hT 85 (by omega)]
      · simp [hT 86 (by omega)]
      · simp [hT 87 (by omega)]
    · have n2 : ¬ b = 82 := by omega
      have n3 : ¬ b = 83 := by omega
      have n4 : ¬ b = 84 := by omega
      have n5 : ¬ b = 85 := by omega
      have n6 : ¬ b = 86 := by omega
      have n7 : ¬ b = 87 := by omega
      simp [h, n2, n3, n4, n5, n6, n7]
  · have e2 : (j < k + 1) = (j < k) := by apply propext; constructor <;> omega
    simp only [e2]
    simp [e]
theorem mi.cp {t : Nat} (ht : ta t) {μ : zMem} {σ : zS2} {π : zP2} {U S : zS2} (h : mi t μ σ π U) (hR : RI S) {c f : Nat} (hc : c < 12) (hU : ∀ d, d < 12 → cdn U d ≤ 30) (hF : zFo μ σ π f (cdw S c) (cdn S c) (S 76 c) (S 77 c) (S 78 c)) : mi t μ σ (zup π (t + 8 + c) 1 (some f)) (cpF U S c) := by
  have e5 : ∀ b, b = 75 ∨ b = 76 ∨ b = 77 ∨ b = 78 → ∀ d, cpF U S c b d = if d = c then S b d else U b d := fun b hb d => by
    unfold cpF
    have n : ¬ b = 74 := by omega
    have m : 75 ≤ b ∧ b ≤ 78 := by omega
    simp [n, m]
  have en : cdn (cpF U S c) c = cdn S c := by unfold cdn; rw [e5 75 (by omega), if_pos rfl]
  refine h.uf ht hc ?_ (fun b hb j => ?_) (fun d hd hne => ⟨?_, fun k hk => ?_, ?_, ?_, ?_⟩)
  · rw [en, e5 76 (by omega), e5 77 (by omega), e5 78 (by omega), if_pos rfl, if_pos rfl, if_pos rfl]
    refine hF.mv zgr.rf (fun _ _ _ _ => rfl) (fun _ _ _ _ => rfl) (fun k hk => ?_) rfl rfl rfl
    have := (hR.1 c hc).1.1
    unfold cdw cpF
    rw [if_pos (Or.inl ⟨rfl, by omega, by omega⟩)]
  · simp only [List.mem_cons, List.not_mem_nil, or_false, not_or] at hb
    unfold cpF
    rw [if_neg (by omega)]
  · unfold cdn; rw [e5 75 (by omega), if_neg hne]
  · have := hU d hd
    unfold cdw cpF
    rw [if_neg (by omega)]
  · rw [e5 76 (by omega), if_neg hne]
  · rw [e5 77 (by omega), if_neg hne]
  · rw [e5 78 (by omega), if_neg hne]

set_option maxRecDepth 100000 in
set_option maxHeartbeats 1600000 in
theorem c_X6_takeSettings {l : Launch} {Z : zZ} (hZ : zSt l Z) {μ : zMem} {σ : zS2} {π : zP2} {g : zG2} {t u : Nat} (ht : ta t) (hu : ta u) (hne : t ≠ u) {S : zS2} (hBt0 : zTb t μ π) (hnm : zNm t σ) (hz : zZf t μ σ π) (hM : mo u μ σ π S) (hK : KI S) {v : Int32} : zCt l Z mX6_takeSettings 3 0 0 [.ref t, .ref u, .int v] (zA4 μ σ π g) (fun r μ' => r = none ∧ zE0 t μ σ π g (clearF (zu S 67 34 v)) μ') := by
  refine zCt_of hZ mpX6_takeSettings (Nat.le_of_ble_eq_true rfl) (L := [some (.ref t), some (.ref u), some (.int v), none, none, none]) rfl (fun τ hY => ?_)
  have hT := hY.1
  obtain ⟨hR, hX, hD⟩ := hK
  have hab : t + 30 ≤ u ∨ u + 30 ≤ t := by unfold ta at ht hu; omega
  obtain ⟨T, hTe⟩ : ∃ T, T = clearF (zu S 67 34 v) := ⟨_, rfl⟩
  obtain ⟨B, hB⟩ : ∃ B, B = zu (beginF S) 67 34 v := ⟨_, rfl⟩
  rw [← hTe]
  have hTS : ∀ b, b ∉ [88, 89, 90, 91, 92, 95, 96, 97, 67] → ∀ j, T b j = S b j := fun b hb j => by
    rw [hTe, clearF_at _ hb, zu_ne _ _ _ _ (fun e => hb (by rw [e]; decide))]
  obtain ⟨v1, v2, v3, v4⟩ := clearF_v (zu S 67 34 v)
  rw [← hTe] at v1 v2 v3 v4
  obtain ⟨b1, b2, b3, b4⟩ := beginF_v S
  have hBS : ∀ b, b ≠ 67 → ∀ j, B b j = beginF S b j := fun b hb j => by rw [hB, zu_ne _ _ _ _ hb]
  have hUn : ∀ i, ∀ d, d < 12 → cdn (tkU B T i) d ≤ 30 := fun i d hd => by
    unfold cdn tkU
    split
    · rw [hTS 75 (by decide)]; exact (hR.1 d hd).1.1
    · rw [hBS 75 (by decide), (b1 d hd).2.2.2.2.1]; decide
  have loop2 : ∀ n i, i + n = 5 → ∀ σ1 π1, mi t μ σ1 π1 (tkV B T i) → zfT t σ σ1 → zfP t π π1 → zJ τ (zFn τ (fun r μ' => r = none ∧ zE0 t μ σ π g T μ') 0 0) 108 [some (.ref t), some (.ref u), some (.int v), some (.int (nI i)), none, none] [] (zA4 μ σ1 π1 g) 0 0 := by
    intro n
    induction n with
    | zero =>
      intro i hi
      have : i = 5 := by omega
      subst this
      intro σ1 π1 hM1 hf1 hp1
      have hB1 : zTb t μ π1 := hM1.tb
      have hO1 : mo u μ σ1 π1 S := hM.oth ht hu hne hf1 hp1
      have hC1 := hO1.1.tb
      obtain ⟨W, hW⟩ : ∃ W : zS2, W = fun b j => if b = 79 then tkV B T 5 79 j else T b j := ⟨_, rfl⟩
      have eW : ∀ b, b ≠ 79 → ∀ j, T b j = W b j := fun b hb j => by rw [hW]; simp [hb]
      have hMW : mi t μ σ1 π1 W := by
        have u1 : ∀ b c, (b = 80 ∨ b = 88 ∨ b = 89) → c < 12 → tkV B T 5 b c = T b c := fun b c hb hc => by
          unfold tkV tkU
          rw [if_neg (by omega), if_pos (Or.inl ⟨hb, hc⟩)]
        have u2 : ∀ b c, (75 ≤ b ∧ b ≤ 78) → c < 12 → tkV B T 5 b c = T b c := fun b c hb hc => by
          unfold tkV tkU
          rw [if_neg (by omega), if_pos (Or.inr (Or.inr ⟨hb, hc⟩))]
        have u3 : ∀ b s, (82 ≤ b ∧ b ≤ 87) → s < 5 → tkV B T 5 b s = T b s := fun b s hb hs => by
          unfold tkV
          rw [if_pos ⟨hb, hs⟩]
        have u4 : ∀ b j, (b = 67 ∨ 90 ≤ b) → tkV B T 5 b j = B b j := fun b j hb => by
          unfold tkV tkU
          rw [if_neg (by omega), if_neg (by omega)]
        refine hM1.S (fun x hx k hk => ?_) (fun c hc => ?_) ?_ ?_ (fun s hs h1 => ?_) (fun c hc => ⟨?_, ?_, ?_, ?_, fun k hk => ?_⟩)
        · unfold lks at hx
          simp only [List.mem_cons, List.not_mem_nil, or_false] at hx
          rcases hx with rfl | rfl | rfl | rfl | rfl | rfl | rfl | rfl | rfl | rfl | rfl | rfl | rfl | rfl | rfl
          · exact (eW 88 (by decide) k).symm.trans (u1 88 k (by omega) hk).symm
          · exact (eW 80 (by decide) k).symm.trans (u1 80 k (by omega) hk).symm
          · show W 79 k = tkV B T 5 79 k
            rw [hW]; simp
          · exact ((eW 90 (by decide) k).symm.trans (v2 k hk).1).trans (((u4 90 k (by omega)).trans (hBS 90 (by decide) k)).trans (b2 k hk).1).symm
          · exact ((eW 91 (by decide) k).symm.trans (v2 k hk).2.1).trans (((u4 91 k (by omega)).trans (hBS 91 (by decide) k)).trans (b2 k hk).2.1).symm
          · exact ((eW 92 (by decide) k).symm.trans (v2 k hk).2.2.1).trans (((u4 92 k (by omega)).trans (hBS 92 (by decide) k)).trans (b2 k hk).2.2.1).symm
          · exact (eW 82 (by decide) k).symm.trans (u3 82 k (by omega) hk).symm
          · exact (eW 83 (by decide) k).symm.trans (u3 83 k (by omega) hk).symm
          · exact (eW 84 (by decide) k).symm.trans (u3 84 k (by omega) hk).symm
          · exact (eW 85 (by decide) k).symm.trans (u3 85 k (by omega) hk).symm
          · exact (eW 86 (by decide) k).symm.trans (u3 86 k (by omega) hk).symm
          · exact (eW 87 (by decide) k).symm.trans (u3 87 k (by omega) hk).symm
          · exact ((eW 95 (by decide) k).symm.trans (v2 k hk).2.2.2.1).trans (((u4 95 k (by omega)).trans (hBS 95 (by decide) k)).trans (b2 k hk).2.2.2.2.2.2.2.2.2.1).symm
          · exact ((eW 96 (by decide) k).symm.trans (v2 k hk).2.2.2.2.1).trans (((u4 96 k (by omega)).trans (hBS 96 (by decide) k)).trans (b2 k hk).2.2.2.2.2.2.2.2.2.2.1).symm
          · exact ((eW 97 (by decide) k).symm.trans (v2 k hk).2.2.2.2.2).trans (((u4 97 k (by omega)).trans (hBS 97 (by decide) k)).trans (b2 k hk).2.2.2.2.2.2.2.2.2.2.2).symm
        · rw [← eW 89 (by decide), u1 89 c (by omega) hc]
        · rw [← eW 67 (by decide), v4, u4 67 34 (by omega), hB, zu_eq, zu_eq]
        · rw [← eW 67 (by decide), v3, u4 67 33 (by omega), hB, zu_n _ _ _ _ (by omega), b3]
        · rw [← eW 92 (by decide), (v2 s hs).2.2.1] at h1
          exact absurd h1 (by decide)
        · rw [← eW 75 (by decide), u2 75 c (by omega) hc]
        · rw [← eW 76 (by decide), u2 76 c (by omega) hc]
        · rw [← eW 77 (by decide), u2 77 c (by omega) hc]
        · rw [← eW 78 (by decide), u2 78 c (by omega) hc]
        · have hk30 : cdn (tkV B T 5) c ≤ 30 := by
            have : cdn (tkV B T 5) c = cdn T c := by unfold cdn; rw [u2 75 c (by omega) hc]
            rw [this]; unfold cdn; rw [hTS 75 (by decide)]; exact (hR.1 c hc).1.1
          rw [← eW 74 (by decide)]
          unfold tkV tkU
          rw [if_neg (by omega), if_pos (Or.inr (Or.inl ⟨rfl, by omega⟩))]
      have hDT : DX T := hD.mv (fun j => hTS 76 (by decide) j) (fun j => hTS 79 (by decide) j)
      refine J_iload_n (i := 3) hT dX6_takeSettings_108 rfl rfl ?_
      refine J_iconst (v := 5) hT dX6_takeSettings_109 rfl ?_
      refine J_icmp_ge (tgt := 134) hT dX6_takeSettings_110 (by decide) (fun _ => ?_) (fun q => absurd (nI_le (a := 5) (b := 5) (by decide) (by decide)) q)
      refine J_aload_n (i := 0) hT dX6_takeSettings_134 rfl rfl ?_
      refine J_callV (ci := 6) hY dX6_takeSettings_135 mfX6_arrange miX6_arrange msX6_arrange kX6_79 ⟨by decide, rfl⟩ hB1.k (c_X6_arrange hZ ht hMW (S' := T) eW hDT) rfl (by decide) rfl rfl (Nat.le_of_ble_eq_true rfl) (Nat.le_refl _) (Nat.le_refl _) (fun r1 μ1 hq1 => ?_)
      obtain ⟨rfl, hq2⟩ := hq1
      exact J_vret hT dX6_takeSettings_138 rfl (⟨rfl, hq2.mv hf1 hp1⟩) (Nat.le_refl _) (Nat.le_refl _)
    | succ n ih =>
      intro i hi
      intro σ1 π1 hM1 hf1 hp1
      have hB1 : zTb t μ π1 := hM1.tb
      have hO1 : mo u μ σ1 π1 S := hM.oth ht hu hne hf1 hp1
      have hC1 := hO1.1.tb
      have hi5 : i < 5 := by omega
      refine J_iload_n (i := 3) hT dX6_takeSettings_108 rfl rfl ?_
      refine J_iconst (v := 5) hT dX6_takeSettings_109 rfl ?_
      refine J_icmp_ge (tgt := 134) hT dX6_takeSettings_110 (by decide) (fun q => absurd q (Int32.not_le.mpr (nI_lt (a := i) (b := 5) (by omega) (by decide)))) (fun _ => ?_)
      refine J_aload_n (i := 0) hT dX6_takeSettings_113 rfl rfl ?_
      refine R_getP hT fX6_37 rfl dX6_takeSettings_114 hB1.k hB1.p4 ?_
      refine J_iload_n (i := 3) hT dX6_takeSettings_117 rfl rfl ?_
      refine R_aald1 hT dX6_takeSettings_118 hB1.k6 (by decide) hB1.l6 (by first | exact ⟨rfl, by decide⟩ | exact zix_nI (by omega) (by decide) | assumption) (hB1.ps hi5) ?_
      refine J_aload_n (i := 1) hT dX6_takeSettings_119 rfl rfl ?_
      refine R_getP hT fX6_37 rfl dX6_takeSettings_120 hC1.k hC1.p4 ?_
      refine J_iload_n (i := 3) hT dX6_takeSettings_123 rfl rfl ?_
      refine R_aald1 hT dX6_takeSettings_124 hC1.k6 (by decide) hC1.l6 (by first | exact ⟨rfl, by decide⟩ | exact zix_nI (by omega) (by decide) | assumption) (hC1.ps hi5) ?_
      refine R_callV0 (ci := 4) hY dX6_takeSettings_125 mfX4_takeSettings miX4_takeSettings msX4_takeSettings kX6_87 ⟨by decide, rfl⟩ (hB1.ks hi5) (c_X4_takeSettings hZ (hB1.ks hi5) (hC1.ks hi5) (by omega)) rfl (by decide) rfl rfl (Nat.le_of_ble_eq_true rfl) (Nat.le_refl _) (Nat.le_refl _) ?_
      refine S_iinc3 hT dX6_takeSettings_128 (nI_inc _) rfl ?_
      refine J_goto (tgt := 108) hT dX6_takeSettings_131 (by decide) ?_
      refine J_L (L' := [_, _, _, _, none, none]) (zsub_keep (zsub_keep (zsub_keep (zsub_keep (zsub_drop (zsub_drop zsub_nil)))))) ?_
      have hz2 : mi t μ (tsF σ1 (t + 25 + i) (u + 25 + i)) π1 (tkV B T (i + 1)) := by
        unfold tsF
        rw [hO1.1.ctl hi5, hO1.1.lim hi5, hO1.1.nds hi5, hO1.1.dem hi5, hO1.1.dly hi5, hO1.1.lie hi5, ← tkV_s (B := B) (T := T) (S := S) (k := i) (fun b hb j => hTS b (by
          simp only [List.mem_cons, List.not_mem_nil, or_false, not_or]; omega) j)]
        exact (((((hM1.lk1 ht (o := 25) (f := 2) (n := 5) (b := 82) (by decide) hi5 (Or.inl (by decide))).lk1 ht (o := 25) (f := 3) (n := 5) (b := 83) (by decide) hi5 (Or.inl (by decide))).lk1 ht (o := 25) (f := 4) (n := 5) (b := 84) (by decide) hi5 (Or.inl (by decide))).lk1 ht (o := 25) (f := 5) (n := 5) (b := 85) (by decide) hi5 (Or.inl (by decide))).lk1 ht (o := 25) (f := 6) (n := 5) (b := 86) (by decide) hi5 (Or.inl (by decide))).lk1 ht (o := 25) (f := 7) (n := 5) (b := 87) (by decide) hi5 (Or.inl (by decide))
      refine ih (i + 1) (by omega) _ _ hz2 (hf1.tr ?_) hp1
      unfold tsF
      exact ((((zfT_u (zmu_s hi5)).tr (zfT_u (zmu_s hi5))).tr (zfT_u (zmu_s hi5))).tr (zfT_u (zmu_s hi5))).tr ((zfT_u (zmu_s hi5)).tr (zfT_u (zmu_s hi5)))
  have loop1 : ∀ n i, i + n = 12 → ∀ σ1 π1, mi t μ σ1 π1 (tkU B T i) → zfT t σ σ1 → zfP t π π1 → zJ τ (zFn τ (fun r μ' => r = none ∧ zE0 t μ σ π g T μ') 0 0) 11 [some (.ref t), some (.ref u), some (.int v), some (.int (nI i)), none, none] [] (zA4 μ σ1 π1 g) 0 0 := by
    intro n
    induction n with
    | zero =>
      intro i hi
      have : i = 12 := by omega
      subst this
      intro σ1 π1 hM1 hf1 hp1
      have hB1 : zTb t μ π1 := hM1.tb
      have hO1 : mo u μ σ1 π1 S := hM.oth ht hu hne hf1 hp1
      have hC1 := hO1.1.tb
      refine J_iload_n (i := 3) hT dX6_takeSettings_11 rfl rfl ?_
      refine J_bipush (v := 12) hT dX6_takeSettings_12 rfl ?_
      refine J_icmp_ge (tgt := 106) hT dX6_takeSettings_14 (by decide) (fun _ => ?_) (fun q => absurd (nI_le (a := 12) (b := 12) (by decide) (by decide)) q)
      refine J_iconst (v := 0) hT dX6_takeSettings_106 rfl ?_
      refine S_istore3 hT dX6_takeSettings_107 rfl rfl ?_
      refine J_L (L' := [_, _, _, _, none, none]) (zsub_keep (zsub_keep (zsub_keep (zsub_keep (zsub_drop (zsub_drop zsub_nil)))))) ?_
      exact loop2 5 0 rfl σ1 π1 (by
        have e : tkV B T 0 = tkU B T 12 := by funext b j; unfold tkV; rw [if_neg (by omega)]
        rw [e]; exact hM1) hf1 hp1
    | succ n ih =>
      intro i hi
      intro σ1 π1 hM1 hf1 hp1
      have hB1 : zTb t μ π1 := hM1.tb
      have hO1 : mo u μ σ1 π1 S := hM.oth ht hu hne hf1 hp1
      have hC1 := hO1.1.tb
      have hi12 : i < 12 := by omega
      obtain ⟨f, hf, hF⟩ := hO1.1.fm hi12
      have hfo := im_out ht hF.1
      have hMc := hM1.cp ht hR hi12 (hUn i) hF
      have hMh := hMc.lk1 ht (o := 8) (f := 4) (n := 12) (b := 80) (k := i) (v := S 80 i) (by decide) hi12 (Or.inl (by decide))
      have t72 : ∀ y, y = T 88 i → zJ τ (zFn τ (fun r μ' => r = none ∧ zE0 t μ σ π g T μ') 0 0) 72 [some (.ref t), some (.ref u), some (.int v), some (.int (nI i)), some (.ref (t + 8 + i)), some (.ref (u + 8 + i))] [.int y, .ref (t + 8 + i)] (zA4 μ (zu σ1 (t + 8 + i) 4 (S 80 i)) (zup π1 (t + 8 + i) 1 (some f)) g) 0 0 := by
        intro y hy
        have hMv := hMh.lk1 ht (o := 8) (f := 2) (n := 12) (b := 88) (k := i) (v := y) (by decide) hi12 (Or.inl (by decide))
        obtain ⟨G, hG⟩ : ∃ G, G = zu (zu (cpF (tkU B T i) S i) 80 i (S 80 i)) 88 i y := ⟨_, rfl⟩
        have hG89 : G 89 i = 0 := by
          rw [hG, zu_ne _ _ _ _ (by decide), zu_ne _ _ _ _ (by decide)]
          unfold cpF tkU
          rw [if_neg (by omega), if_neg (by omega), hBS 89 (by decide), (b1 i hi12).2.1]
        have hGs : ∀ z, z = T 89 i → zu G 89 i z = tkU B T (i + 1) := fun z hz => by
          rw [hG]
          exact tkU_s (fun b hb j => hTS b (by rcases hb with e | e | e | e | e | e <;> rw [e] <;> decide) j) (hTS 80 (by decide) i).symm hy hz
        rw [← hG] at hMv
        clear hG hMc hMh
        obtain ⟨σ3, hσ3⟩ : ∃ σ3, σ3 = zu (zu σ1 (t + 8 + i) 4 (S 80 i)) (t + 8 + i) 2 y := ⟨_, rfl⟩
        have hf3 : zfT t σ σ3 := by rw [hσ3]; exact hf1.tr ((zfT_u (zmu_c hi12)).tr (zfT_u (zmu_c hi12)))
        have hh3 : σ3 (u + 8 + i) 4 = S 80 i := by rw [hσ3, zu_n _ _ _ _ (by omega), zu_n _ _ _ _ (by omega)]; exact hO1.1.held hi12
        rw [← hσ3] at hMv
        have t75 : zJ τ (zFn τ (fun r μ' => r = none ∧ zE0 t μ σ π g T μ') 0 0) 75 [some (.ref t), some (.ref u), some (.int v), some (.int (nI i)), some (.ref (t + 8 + i)), some (.ref (u + 8 + i))] [] (zA4 μ σ3 (zup π1 (t + 8 + i) 1 (some f)) g) 0 0 := by
          clear hσ3
          by_cases h80 : S 80 i = 0
          · have hMd := hMv.ud ht (hMv.d.or hi12 (S' := zu G 89 i 1) (fun j hj => by
              by_cases e : j = i
              · rw [e, zu_eq]; simp
              · rw [zu_n _ _ _ _ (by omega)]; simp [e])) (fun b hb j => zu_ne _ _ _ _ hb j)
            rw [hGs 1 (by rw [(v1 i hi12).2, zu_ne _ _ _ _ (by decide), if_pos h80])] at hMd
            refine J_aload_n (i := 0) hT dX6_takeSettings_75 rfl rfl ?_
            refine J_dup hT dX6_takeSettings_76 rfl ?_
            refine R_getI hT fX6_45 rfl dX6_takeSettings_77 hB1.k ?_
            refine J_aload (i := 5) hT dX6_takeSettings_80 rfl ?_
            refine R_getI hT fX6_68 rfl dX6_takeSettings_82 (hC1.kc hi12) ?_
            refine J_topil (hh3) ?_
            refine J_if_eq (tgt := 92) hT dX6_takeSettings_85 (by decide) (fun _ => ?_) (fun q => absurd (h80) q)
            refine J_iload_n (i := 3) hT dX6_takeSettings_92 rfl rfl ?_
            refine R_callS1 hY dX6_takeSettings_93 mfX8_bit mtX8_bit kX6_83 (c_X8_bit hZ) rfl (by decide) rfl rfl (Nat.le_of_ble_eq_true rfl) (Nat.le_refl _) (Nat.le_refl _) ?_
            refine J_ior hT dX6_takeSettings_96 ?_
            refine R_putI hT fX6_45 rfl rfl dX6_takeSettings_97 hB1.k ?_
            refine S_iinc3 hT dX6_takeSettings_100 (nI_inc _) rfl ?_
            refine J_goto (tgt := 11) hT dX6_takeSettings_103 (by decide) ?_
            refine J_L (L' := [_, _, _, _, none, none]) (zsub_keep (zsub_keep (zsub_keep (zsub_keep (zsub_drop (zsub_drop zsub_nil)))))) ?_
            exact ih (i + 1) (by omega) _ _ hMd (hf3.tr (zfT_u (Or.inl rfl))) (hp1.tr (zfP_u (Or.inr ⟨by omega, by omega, rfl⟩)))
          · have hMd := hMv.ud ht (m := σ3 t 6 ||| 0) (S' := zu G 89 i 0) (by
              rw [b_or0]
              exact hMv.d.ext (fun j hj => by
                by_cases e : j = i
                · rw [e, zu_eq, hG89]
                · rw [zu_n _ _ _ _ (by omega)])) (fun b hb j => zu_ne _ _ _ _ hb j)
            rw [hGs 0 (by rw [(v1 i hi12).2, zu_ne _ _ _ _ (by decide), if_neg h80])] at hMd
            refine J_aload_n (i := 0) hT dX6_takeSettings_75 rfl rfl ?_
            refine J_dup hT dX6_takeSettings_76 rfl ?_
            refine R_getI hT fX6_45 rfl dX6_takeSettings_77 hB1.k ?_
            refine J_aload (i := 5) hT dX6_takeSettings_80 rfl ?_
            refine R_getI hT fX6_68 rfl dX6_takeSettings_82 (hC1.kc hi12) ?_
            refine J_topil (hh3) ?_
            refine J_if_eq (tgt := 92) hT dX6_takeSettings_85 (by decide) (fun q => absurd q (h80)) (fun _ => ?_)
            refine J_iconst (v := 0) hT dX6_takeSettings_88 rfl ?_
            refine J_goto (tgt := 96) hT dX6_takeSettings_89 (by decide) ?_
            refine J_ior hT dX6_takeSettings_96 ?_
            refine R_putI hT fX6_45 rfl rfl dX6_takeSettings_97 hB1.k ?_
            refine S_iinc3 hT dX6_takeSettings_100 (nI_inc _) rfl ?_
            refine J_goto (tgt := 11) hT dX6_takeSettings_103 (by decide) ?_
            refine J_L (L' := [_, _, _, _, none, none]) (zsub_keep (zsub_keep (zsub_keep (zsub_keep (zsub_drop (zsub_drop zsub_nil)))))) ?_
            exact ih (i + 1) (by omega) _ _ hMd (hf3.tr (zfT_u (Or.inl rfl))) (hp1.tr (zfP_u (Or.inr ⟨by omega, by omega, rfl⟩)))
        rw [hσ3] at t75
        refine R_putI hT fX6_65 rfl rfl dX6_takeSettings_72 (hB1.kc hi12) ?_
        exact t75
      refine J_iload_n (i := 3) hT dX6_takeSettings_11 rfl rfl ?_
      refine J_bipush (v := 12) hT dX6_takeSettings_12 rfl ?_
      refine J_icmp_ge (tgt := 106) hT dX6_takeSettings_14 (by decide) (fun q => absurd q (Int32.not_le.mpr (nI_lt (a := i) (b := 12) (by omega) (by decide)))) (fun _ => ?_)
      refine J_aload_n (i := 0) hT dX6_takeSettings_17 rfl rfl ?_
      refine R_getP hT fX6_22 rfl dX6_takeSettings_18 hB1.k hB1.p1 ?_
      refine J_iload_n (i := 3) hT dX6_takeSettings_21 rfl rfl ?_
      refine R_aald1 hT dX6_takeSettings_22 hB1.k3 (by decide) hB1.l3 (by first | exact ⟨rfl, by decide⟩ | exact zix_nI (by omega) (by decide) | assumption) (hB1.pc hi12) ?_
      refine S_astore4 hT dX6_takeSettings_23 rfl ?_
      refine J_aload_n (i := 1) hT dX6_takeSettings_25 rfl rfl ?_
      refine R_getP hT fX6_22 rfl dX6_takeSettings_26 hC1.k hC1.p1 ?_
      refine J_iload_n (i := 3) hT dX6_takeSettings_29 rfl rfl ?_
      refine R_aald1 hT dX6_takeSettings_30 hC1.k3 (by decide) hC1.l3 (by first | exact ⟨rfl, by decide⟩ | exact zix_nI (by omega) (by decide) | assumption) (hC1.pc hi12) ?_
      refine S_astore5 hT dX6_takeSettings_31 rfl ?_
      refine J_aload (i := 4) hT dX6_takeSettings_33 rfl ?_
      refine J_aload (i := 5) hT dX6_takeSettings_35 rfl ?_
      refine R_getP hT fX6_62 rfl dX6_takeSettings_37 (hC1.kc hi12) hf ?_
      refine R_putP hT fX6_62 rfl rfl dX6_takeSettings_40 (hB1.kc hi12) ?_
      refine J_aload (i := 4) hT dX6_takeSettings_43 rfl ?_
      refine J_aload (i := 5) hT dX6_takeSettings_45 rfl ?_
      refine R_getI hT fX6_68 rfl dX6_takeSettings_47 (hC1.kc hi12) ?_
      refine J_topil (hO1.1.held hi12) ?_
      refine R_putZ hT fX6_68 rfl rfl (hX.2.1 i hi12) dX6_takeSettings_50 (hB1.kc hi12) ?_
      refine J_aload (i := 4) hT dX6_takeSettings_53 rfl ?_
      refine J_aload (i := 5) hT dX6_takeSettings_55 rfl ?_
      refine R_getI hT fX6_68 rfl dX6_takeSettings_57 (hC1.kc hi12) ?_
      refine J_topil ((zu_n _ _ _ _ (by omega)).trans (hO1.1.held hi12)) ?_
      refine J_if_eq (tgt := 71) hT dX6_takeSettings_60 (by decide) (fun q60 => ?_) (fun q60 => ?_)
      · refine J_iconst (v := 0) hT dX6_takeSettings_71 rfl ?_
        refine t72 _ ?_
        rw [(v1 i hi12).1, zu_ne _ _ _ _ (by decide), zu_ne _ _ _ _ (by decide)]
        first
          | rw [if_pos q60]
          | rw [if_neg q60, (hX.2.2.1 i hi12 q60).1]
      · refine J_aload (i := 5) hT dX6_takeSettings_63 rfl ?_
        refine R_getI hT fX6_65 rfl dX6_takeSettings_65 (hC1.kc hi12) ?_
        refine J_topil ((zu_n _ _ _ _ (by omega)).trans (hO1.1.val hi12)) ?_
        refine J_goto (tgt := 72) hT dX6_takeSettings_68 (by decide) ?_
        refine t72 _ ?_
        rw [(v1 i hi12).1, zu_ne _ _ _ _ (by decide), zu_ne _ _ _ _ (by decide)]
        first
          | rw [if_pos q60]
          | rw [if_neg q60, (hX.2.2.1 i hi12 q60).1]
  have hBt : zTb t μ π := hBt0
  refine J_aload_n (i := 0) hT dX6_takeSettings_0 rfl rfl ?_
  refine J_callV (ci := 6) hY dX6_takeSettings_1 mfX6_clear miX6_clear msX6_clear kX6_82 ⟨by decide, rfl⟩ hBt.k (c_X6_clear hZ ht S hBt hnm hz) rfl (by decide) rfl rfl (Nat.le_of_ble_eq_true rfl) (Nat.le_refl _) (Nat.le_refl _) (fun r1 μ1 hq1 => ?_)
  obtain ⟨rfl, σ0, π0, rfl, hM0, hf0, hp0⟩ := hq1
  refine J_aload_n (i := 0) hT dX6_takeSettings_4 rfl rfl ?_
  refine J_iload_n (i := 2) hT dX6_takeSettings_5 rfl rfl ?_
  refine R_putI hT fX6_49 rfl rfl dX6_takeSettings_6 hM0.1.tb.k ?_
  refine J_iconst (v := 0) hT dX6_takeSettings_9 rfl ?_
  refine S_istore3 hT dX6_takeSettings_10 rfl rfl ?_
  have hMb : mi t μ (zu σ0 t 7 v) π0 (tkU B T 0) := by
    have e : tkU B T 0 = B := by funext b j; unfold tkU; rw [if_neg (by omega)]
    rw [e, hB]
    exact hM0.1.uw ht (Or.inl ⟨rfl, rfl⟩)
  exact loop1 12 0 rfl _ _ hMb (hf0.tr (zfT_u (Or.inl rfl))) hp0


