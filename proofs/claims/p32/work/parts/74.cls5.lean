def mkM (p : Nat → Bool) : Nat → Int32
  | 0 => 0
  | n + 1 => mkM p n ||| (if p n = true then (1 : Int32) <<< (nI n &&& 31) else 0)
theorem mkM_bt (p : Nat → Bool) : ∀ n, n ≤ 32 → ∀ i, i < 32 → bt (mkM p n) i = (decide (i < n) && p i) := by
  intro n
  induction n with
  | zero => intro _ i _; simp [mkM, b_0]
  | succ n ih =>
    intro hn i hi
    rw [mkM, b_or, ih (by omega) i hi]
    by_cases e : i = n
    · subst e
      by_cases q : p i = true
      · simp [q, b_one i (by omega) hi]
      · simp [q, b_0]
    · have e2 : (i < n + 1) = (i < n) := by apply propext; constructor <;> omega
      simp only [e2]
      by_cases q : p n = true
      · simp [q, b_one n (by omega) hi, e]
      · simp [q, b_0]
theorem stI_iff (S : zS2) (x : Int32) (k n : Nat) : stI S x k n = true ↔ ∃ r, r < n ∧ bt x k = true ∧ S 80 k = 0 ∧ bt (S 77 k) r = true ∧ oldB S r = true := by
  induction n with
  | zero => simp [stI]
  | succ n ih =>
    rw [stI, Bool.or_eq_true, ih]
    simp only [Bool.and_eq_true, decide_eq_true_eq]
    constructor
    · rintro (⟨r, h, q⟩ | q)
      · exact ⟨r, by omega, q⟩
      · exact ⟨n, by omega, q⟩
    · rintro ⟨r, h, q⟩
      by_cases e : r = n
      · subst e; exact Or.inr q
      · exact Or.inl ⟨r, by omega, q⟩
theorem stO_iff (S : zS2) (x : Int32) (n : Nat) : stO S x n = true ↔ ∃ k, k < n ∧ ∃ r, r < 5 ∧ bt x k = true ∧ S 80 k = 0 ∧ bt (S 77 k) r = true ∧ oldB S r = true := by
  induction n with
  | zero => simp [stO]
  | succ n ih =>
    rw [stO, Bool.or_eq_true, ih, stI_iff]
    constructor
    · rintro (⟨k, h, q⟩ | q)
      · exact ⟨k, by omega, q⟩
      · exact ⟨n, by omega, q⟩
    · rintro ⟨k, h, q⟩
      by_cases e : k = n
      · subst e; exact Or.inr q
      · exact Or.inl ⟨k, by omega, q⟩
def belC (S : zS2) (h : Bool) (c : Nat) : Int32 := belF S h ((1 : Int32) <<< (nI c &&& 31))
theorem belC_self (S : zS2) (h : Bool) {c : Nat} (hc : c < 12) : bt (belC S h c) c = true := belF_up S h _ (by rw [b_one c (by omega) (by omega)]; simp)
theorem belC_step (S : zS2) (h : Bool) {c k : Nat} (hc : c < 12) (hk : k < 12) (hb : bt (belC S h c) k = true) : k = c ∨ ((h && decide (S 80 c ≠ 0)) = false ∧ ∃ d, d < 12 ∧ bt (S 76 c) d = true ∧ bt (belC S h d) k = true) := by
  have e : ∀ i, i < 12 → bt (mkM (fun k => decide (k = c) || (!(h && decide (S 80 c ≠ 0)) && (List.range 12).any (fun d => bt (S 76 c) d && bt (belC S h d) k))) 12) i = (decide (i = c) || (!(h && decide (S 80 c ≠ 0)) && (List.range 12).any (fun d => bt (S 76 c) d && bt (belC S h d) i))) := fun i hi => by
    rw [mkM_bt _ 12 (by omega) i (by omega)]; simp [hi]
  have := belF_in S h (x := (1 : Int32) <<< (nI c &&& 31)) (M := mkM (fun k => decide (k = c) || (!(h && decide (S 80 c ≠ 0)) && (List.range 12).any (fun d => bt (S 76 c) d && bt (belC S h d) k))) 12) ?_ ?_ k hk hb
  · rw [e k hk] at this
    simp only [Bool.or_eq_true, decide_eq_true_eq, Bool.and_eq_true, List.any_eq_true, List.mem_range, Bool.not_eq_true'] at this
    exact this
  · intro k j hk hj h1 h2 h3
    rw [e k hk] at h1
    rw [e j hj]
    simp only [Bool.or_eq_true, decide_eq_true_eq, Bool.and_eq_true, List.any_eq_true, List.mem_range, Bool.not_eq_true'] at h1 ⊢
    rcases h1 with h1 | ⟨h4, d, hd, h5, h6⟩
    · subst h1
      exact Or.inr ⟨h2, j, hj, h3, belC_self S h hj⟩
    · exact Or.inr ⟨h4, d, hd, h5, belF_clos S h _ k j hk hj h6 h2 h3⟩
  · intro i hi h1
    rw [e i hi]
    rw [b_one c (by omega) (by omega)] at h1
    simp_all
theorem belC_tr (S : zS2) (h : Bool) {c d k : Nat} (hc : c < 12) (hd : d < 12) (hk : k < 12) (h0 : (h && decide (S 80 c ≠ 0)) = false) (h1 : bt (S 76 c) d = true) (h2 : bt (belC S h d) k = true) : bt (belC S h c) k = true :=
  belF_in S h (belF_clos S h _) (fun i hi q => by
    rw [b_one d (by omega) (by omega)] at q
    have : i = d := by simpa using q
    subst this
    exact belF_clos S h _ c i hc hi (belC_self S h hc) h0 h1) k hk h2
theorem staleB_iff (S : zS2) {c : Nat} (hc : c < 12) : staleB S c = true ↔ S 80 c = 0 ∧ ((∃ r, r < 5 ∧ bt (S 77 c) r = true ∧ oldB S r = true) ∨ ∃ d, d < 12 ∧ bt (S 76 c) d = true ∧ staleB S d = true) := by
  unfold staleB
  rw [stO_iff]
  constructor
  · rintro ⟨k, hk, r, hr, h1, h2, h3, h4⟩
    rcases belC_step S true hc hk h1 with e | ⟨e0, d, hd, h5, h6⟩
    · subst e
      exact ⟨h2, Or.inl ⟨r, hr, h3, h4⟩⟩
    · exact ⟨by simpa using e0, Or.inr ⟨d, hd, h5, (stO_iff _ _ _).mpr ⟨k, hk, r, hr, h6, h2, h3, h4⟩⟩⟩
  · rintro ⟨h0, ⟨r, hr, h1, h2⟩ | ⟨d, hd, h1, h2⟩⟩
    · exact ⟨c, hc, r, hr, belC_self S true hc, h0, h1, h2⟩
    · obtain ⟨k, hk, r, hr, h3, h4⟩ := (stO_iff _ _ _).mp h2
      exact ⟨k, hk, r, hr, belC_tr S true hc hd hk (by simp [h0]) h1 h3, h4⟩
/-- what the class finds stale: cells, and readings behind them -/
def fsN (S : zS2) : Int32 := mkM (fun i => if i < 12 then staleB S i else oldB S (i - 12)) 17
theorem fsN_bt (S : zS2) {i : Nat} (hi : i < 32) : bt (fsN S) i = (decide (i < 17) && (if i < 12 then staleB S i else oldB S (i - 12))) := mkM_bt _ 17 (by omega) i hi
/-- what keeps being so, beside RI -/
def XI (S : zS2) : Prop :=
  (∀ c, c < 12 → -1000000 ≤ (S 88 c).toInt ∧ (S 88 c).toInt ≤ 1000000) ∧ (∀ c, c < 12 → (S 80 c = 0 ∨ S 80 c = 1)) ∧ (∀ c, c < 12 → S 80 c ≠ 0 → S 81 c = S 88 c ∧ S 89 c = 0)
  ∧ (∀ r, r < 5 → (-1000000 ≤ (S 90 r).toInt ∧ (S 90 r).toInt ≤ 1000000) ∧ (S 91 r = -1 ∨ 0 ≤ S 91 r))
  ∧ (∀ s, s < 5 → (-1000000 ≤ (S 96 s).toInt ∧ (S 96 s).toInt ≤ 1000000) ∧ (0 ≤ S 85 s ∧ S 85 s ≤ 1000) ∧ (S 87 s = -1 ∨ (0 ≤ S 87 s ∧ S 87 s ≤ 1000)) ∧ (S 92 s = 0 ∨ S 92 s = 1 ∨ S 92 s = 2 ∨ S 92 s = 3))
def pm1 (S : zS2) : Nat → Int32
  | 0 => 0
  | n + 1 => pm1 S n ||| (if oldB S n = true then (1 : Int32) <<< (nI (12 + n) &&& 31) else 0)
theorem pm1_bt (S : zS2) : ∀ n, n ≤ 5 → ∀ i, i < 32 → bt (pm1 S n) i = (decide (12 ≤ i) && (decide (i < 12 + n) && oldB S (i - 12))) := by
  intro n
  induction n with
  | zero =>
    intro _ i _
    rw [pm1, b_0]
    by_cases h : 12 ≤ i
    · simp [h, show ¬ i < 12 + 0 by omega]
    · simp [h]
  | succ n ih =>
    intro hn i hi
    rw [pm1, b_or, ih (by omega) i hi]
    by_cases e : i = 12 + n
    · subst e
      by_cases q : oldB S n = true
      · simp [q, b_one (12 + n) (by omega) hi]
      · simp [q, b_0]
    · have e2 : (i < 12 + (n + 1)) = (i < 12 + n) := by apply propext; constructor <;> omega
      simp only [e2]
      by_cases q : oldB S n = true
      · simp [q, b_one (12 + n) (by omega) hi, e]
      · simp [q, b_0]
theorem bt_any {x y : Int32} : x &&& y ≠ 0 ↔ ∃ i, i < 32 ∧ bt x i = true ∧ bt y i = true := by
  constructor
  · intro h
    obtain ⟨k, hk, h1⟩ := bt_ex h
    rw [b_and, Bool.and_eq_true] at h1
    exact ⟨k, hk, h1.1, h1.2⟩
  · rintro ⟨i, hi, h1, h2⟩ e
    have := congrArg (fun z => bt z i) e
    simp only [b_and, h1, h2, b_0] at this
    cases this

set_option maxRecDepth 100000 in
set_option maxHeartbeats 4000000 in
theorem c_X6_findStale {l : Launch} {Z : zZ} (hZ : zSt l Z) {μ : zMem} {σ : zS2} {π : zP2} {g : zG2} {t : Nat} (ht : ta t) {S : zS2} (hM : mo t μ σ π S) (hD : DepthOK S) (h91 : ∀ r, r < 5 → S 91 r = -1 ∨ 0 ≤ S 91 r) : zCt l Z mX6_findStale 1 0 0 [.ref t] (zA4 μ σ π g) (fun r μ' => r = some (.int (fsN S)) ∧ μ' = zA4 μ σ π g) := by
  refine zCt_of hZ mpX6_findStale (Nat.le_of_ble_eq_true rfl) (L := [some (.ref t), none, none, none, none, none]) rfl (fun τ hY => ?_)
  have hT := hY.1
  have hB := hM.1.tb
  obtain ⟨ρ, hρ1, hρ2, hρ3⟩ := hM.2
  have loop2 : ∀ n i, i + n = 12 → ∀ m, (∀ j, j < 32 → bt m j = (if j < 12 then (staleB S j && decide (∃ q, q < i ∧ ρ q = j)) else (decide (j < 17) && oldB S (j - 12)))) → zJ τ (zFn τ (fun r μ' => r = some (.int (fsN S)) ∧ μ' = zA4 μ σ π g) 0 0) 60 [some (.ref t), some (.int m), some (.ref (t + 4)), some (.int (nI 12)), some (.int (nI i)), none] [] (zA4 μ σ π g) 0 0 := by
    intro n
    induction n with
    | zero =>
      intro i hi
      have : i = 12 := by omega
      subst this
      intro m hm
      refine J_iload (i := 4) hT dX6_findStale_60 rfl ?_
      refine J_iload_n (i := 3) hT dX6_findStale_62 rfl rfl ?_
      refine J_icmp_ge (tgt := 110) hT dX6_findStale_63 (by decide) (fun _ => ?_) (fun q => absurd (nI_le (a := 12) (b := 12) (by decide) (by decide)) q)
      refine J_iload_n (i := 1) hT dX6_findStale_110 rfl rfl ?_
      exact J_iret hT dX6_findStale_111 rfl rfl (⟨by
          congr 2
          apply b_ext
          intro j hj
          rw [hm j hj, fsN_bt S hj]
          split
          · rename_i h12
            obtain ⟨q, hq, e⟩ := hρ2 j h12
            have : (∃ q, q < 12 ∧ ρ q = j) := ⟨q, hq, e⟩
            simp [this, show j < 17 by omega]
          · rfl, rfl⟩) (Nat.le_refl _) (Nat.le_refl _)
    | succ n ih =>
      intro i hi
      intro m hm
      have hi12 : i < 12 := by omega
      obtain ⟨hc, hpc⟩ := hρ1 i hi12
      obtain ⟨f, hf, hF⟩ := hM.1.fm hc
      have hset : (σ f 1 &&& m ≠ 0) ↔ ((∃ r, r < 5 ∧ bt (S 77 (ρ i)) r = true ∧ oldB S r = true) ∨ ∃ d, d < 12 ∧ bt (S 76 (ρ i)) d = true ∧ staleB S d = true) := by
        rw [bt_any]
        constructor
        · rintro ⟨j, hj, h1, h2⟩
          rw [hm j hj] at h2
          by_cases h12 : j < 12
          · rw [if_pos h12, Bool.and_eq_true] at h2
            exact Or.inr ⟨j, h12, (hM.1.b76 hc hf h12).symm.trans h1, h2.1⟩
          · rw [if_neg h12, Bool.and_eq_true, decide_eq_true_eq] at h2
            exact Or.inl ⟨j - 12, by omega, by rw [← hM.1.b77 hc hf (show j - 12 < 5 by omega), show 12 + (j - 12) = j by omega]; exact h1, h2.2⟩
        · rintro (⟨r, hr, h1, h2⟩ | ⟨d, hd, h1, h2⟩)
          · exact ⟨12 + r, by omega, by rw [hM.1.b77 hc hf hr]; exact h1, by rw [hm _ (by omega), if_neg (by omega), show 12 + r - 12 = r by omega, h2]; simp; omega⟩
          · refine ⟨d, by omega, by rw [hM.1.b76 hc hf hd]; exact h1, ?_⟩
            rw [hm d (by omega), if_pos hd, h2]
            obtain ⟨q, hq, e⟩ := hρ2 d hd
            have hlt : q < i := by
              apply Classical.byContradiction
              intro hn
              have hdd := hD (ρ i) d hc hd h1
              rcases Nat.lt_or_eq_of_le (Nat.not_lt.mp hn) with h | h
              · rcases hρ3 i q h hq with h3 | h3
                · rw [e] at h3; exact absurd (Int32.lt_trans hdd h3) Int32.lt_irrefl
                · rw [e] at h3; rw [h3.1] at hdd; exact absurd hdd Int32.lt_irrefl
              · rw [h, e] at hdd; exact absurd hdd Int32.lt_irrefl
            simpa using ⟨q, hlt, e⟩
      have hst := staleB_iff S hc
      rw [← hset] at hst
      have hex : ∀ j, (∃ q, q < i + 1 ∧ ρ q = j) ↔ ((∃ q, q < i ∧ ρ q = j) ∨ ρ i = j) := fun j => by
        constructor
        · rintro ⟨q, h1, h2⟩
          by_cases e : q = i
          · subst e; exact Or.inr h2
          · exact Or.inl ⟨q, by omega, h2⟩
        · rintro (⟨q, h1, h2⟩ | h2)
          · exact ⟨q, by omega, h2⟩
          · exact ⟨i, by omega, h2⟩
      have n0 : staleB S (ρ i) = false → ∀ j, j < 32 → bt m j = (if j < 12 then (staleB S j && decide (∃ q, q < i + 1 ∧ ρ q = j)) else (decide (j < 17) && oldB S (j - 12))) := fun hz j hj => by
        rw [hm j hj]
        split
        · by_cases e : ρ i = j
          · subst e; simp [hz]
          · congr 1
            apply decide_eq_decide.mpr
            rw [hex]
            simp [e]
        · rfl
      have n1 : staleB S (ρ i) = true → ∀ j, j < 32 → bt (m ||| (1 : Int32) <<< (nI (ρ i) &&& 31)) j = (if j < 12 then (staleB S j && decide (∃ q, q < i + 1 ∧ ρ q = j)) else (decide (j < 17) && oldB S (j - 12))) := fun hz j hj => by
        rw [b_or, b_one (ρ i) (by omega) hj, hm j hj]
        split
        · by_cases e : ρ i = j
          · subst e
            have : (∃ q, q < i + 1 ∧ ρ q = ρ i) := ⟨i, by omega, rfl⟩
            simp [hz, this]
          · have e' : ¬ j = ρ i := fun q => e q.symm
            have : decide (∃ q, q < i + 1 ∧ ρ q = j) = decide (∃ q, q < i ∧ ρ q = j) := by
              apply decide_eq_decide.mpr
              rw [hex]
              simp [e]
            rw [this]
            simp [e']
        · have : ¬ j = ρ i := by omega
          simp [this]
      refine J_iload (i := 4) hT dX6_findStale_60 rfl ?_
      refine J_iload_n (i := 3) hT dX6_findStale_62 rfl rfl ?_
      refine J_icmp_ge (tgt := 110) hT dX6_findStale_63 (by decide) (fun q => absurd q (Int32.not_le.mpr (nI_lt (a := i) (b := 12) (by omega) (by decide)))) (fun _ => ?_)
      refine J_aload_n (i := 2) hT dX6_findStale_66 rfl rfl ?_
      refine J_iload (i := 4) hT dX6_findStale_67 rfl ?_
      refine R_aald1 hT dX6_findStale_69 hB.k4 (by decide) hB.l4 (by first | exact ⟨rfl, by decide⟩ | exact zix_nI (by omega) (by decide) | assumption) hpc ?_
      refine S_astore5 hT dX6_findStale_70 rfl ?_
      refine J_aload (i := 5) hT dX6_findStale_72 rfl ?_
      refine R_getI hT fX6_68 rfl dX6_findStale_74 (hB.kc hc) ?_
      refine J_topil (hM.1.held hc) ?_
      refine J_if_ne (tgt := 104) hT dX6_findStale_77 (by decide) (fun q77 => ?_) (fun q77 => ?_)
      · refine S_iinc4 hT dX6_findStale_104 (nI_inc _) rfl ?_
        refine J_goto (tgt := 60) hT dX6_findStale_107 (by decide) ?_
        refine J_L (L' := [_, _, _, _, _, none]) (zsub_keep (zsub_keep (zsub_keep (zsub_keep (zsub_keep (zsub_drop (zsub_refl _))))))) ?_
        first
          | exact ih (i + 1) (by omega) _ (n0 (Bool.eq_false_iff.mpr (fun hz => q77 (hst.mp hz).1)))
          | exact ih (i + 1) (by omega) _ (n0 (Bool.eq_false_iff.mpr (fun hz => (hst.mp hz).2 q90)))
          | exact ih (i + 1) (by omega) _ (n1 (hst.mpr ⟨q77, q90⟩))
      · refine J_aload (i := 5) hT dX6_findStale_80 rfl ?_
        refine R_getP hT fX6_62 rfl dX6_findStale_82 (hB.kc hc) hf ?_
        refine R_getI hT fX6_196 rfl dX6_findStale_85 hF.2.2.1 ?_
        refine J_iload_n (i := 1) hT dX6_findStale_88 rfl rfl ?_
        refine J_iand hT dX6_findStale_89 ?_
        refine J_if_eq (tgt := 104) hT dX6_findStale_90 (by decide) (fun q90 => ?_) (fun q90 => ?_)
        · refine S_iinc4 hT dX6_findStale_104 (nI_inc _) rfl ?_
          refine J_goto (tgt := 60) hT dX6_findStale_107 (by decide) ?_
          refine J_L (L' := [_, _, _, _, _, none]) (zsub_keep (zsub_keep (zsub_keep (zsub_keep (zsub_keep (zsub_drop (zsub_refl _))))))) ?_
          first
            | exact ih (i + 1) (by omega) _ (n0 (Bool.eq_false_iff.mpr (fun hz => q77 (hst.mp hz).1)))
            | exact ih (i + 1) (by omega) _ (n0 (Bool.eq_false_iff.mpr (fun hz => (hst.mp hz).2 q90)))
            | exact ih (i + 1) (by omega) _ (n1 (hst.mpr ⟨q77, q90⟩))
        · refine J_iload_n (i := 1) hT dX6_findStale_93 rfl rfl ?_
          refine J_aload (i := 5) hT dX6_findStale_94 rfl ?_
          refine R_getI hT fX6_130 rfl dX6_findStale_96 (hB.kc hc) ?_
          refine J_topil (hM.1.nc hc) ?_
          refine R_callS1 hY dX6_findStale_99 mfX8_bit mtX8_bit kX6_83 (c_X8_bit hZ) rfl (by decide) rfl rfl (Nat.le_of_ble_eq_true rfl) (Nat.le_refl _) (Nat.le_refl _) ?_
          refine J_ior hT dX6_findStale_102 ?_
          refine S_istore1 hT dX6_findStale_103 rfl rfl ?_
          refine S_iinc4 hT dX6_findStale_104 (nI_inc _) rfl ?_
          refine J_goto (tgt := 60) hT dX6_findStale_107 (by decide) ?_
          refine J_L (L' := [_, _, _, _, _, none]) (zsub_keep (zsub_keep (zsub_keep (zsub_keep (zsub_keep (zsub_drop (zsub_refl _))))))) ?_
          first
            | exact ih (i + 1) (by omega) _ (n0 (Bool.eq_false_iff.mpr (fun hz => q77 (hst.mp hz).1)))
            | exact ih (i + 1) (by omega) _ (n0 (Bool.eq_false_iff.mpr (fun hz => (hst.mp hz).2 q90)))
            | exact ih (i + 1) (by omega) _ (n1 (hst.mpr ⟨q77, q90⟩))
  have loop1 : ∀ n i, i + n = 5 → zJ τ (zFn τ (fun r μ' => r = some (.int (fsN S)) ∧ μ' = zA4 μ σ π g) 0 0) 4 [some (.ref t), some (.int (pm1 S i)), some (.int (nI i)), none, none, none] [] (zA4 μ σ π g) 0 0 := by
    intro n
    induction n with
    | zero =>
      intro i hi
      have : i = 5 := by omega
      subst this
      refine J_iload_n (i := 2) hT dX6_findStale_4 rfl rfl ?_
      refine J_aload_n (i := 0) hT dX6_findStale_5 rfl rfl ?_
      refine R_getP hT fX6_31 rfl dX6_findStale_6 hB.k hB.p3 ?_
      refine R_alen hT dX6_findStale_9 (by rw [hB.k5]; decide) hB.l5 ?_
      refine J_icmp_ge (tgt := 49) hT dX6_findStale_10 (by decide) (fun _ => ?_) (fun q => absurd (nI_le (a := 5) (b := 5) (by decide) (by decide)) q)
      refine J_aload_n (i := 0) hT dX6_findStale_49 rfl rfl ?_
      refine R_getP hT fX6_26 rfl dX6_findStale_50 hB.k hB.p2 ?_
      refine S_astore2 hT dX6_findStale_53 rfl rfl ?_
      refine J_aload_n (i := 2) hT dX6_findStale_54 rfl rfl ?_
      refine R_alen hT dX6_findStale_55 (by rw [hB.k4]; decide) hB.l4 ?_
      refine S_istore3 hT dX6_findStale_56 rfl rfl ?_
      refine J_iconst (v := 0) hT dX6_findStale_57 rfl ?_
      refine S_istore4 hT dX6_findStale_58 rfl ?_
      exact loop2 12 0 rfl _ (fun j hj => by
        rw [pm1_bt S 5 (by omega) j hj]
        by_cases h12 : j < 12
        · simp [h12, show ¬ 12 ≤ j by omega]
        · simp [h12, show 12 ≤ j by omega])
    | succ n ih =>
      intro i hi
      have hi5 : i < 5 := by omega
      have hold : oldB S i = !(decide (S 91 i ≠ -1) && decide (S 67 34 - S 91 i ≤ 10)) := by
        unfold oldB
        rcases h91 i hi5 with e | e
        · rw [e]; simp
        · have h1 : ¬ S 91 i = -1 := fun q => by rw [q] at e; exact absurd e (by decide)
          rw [decide_eq_false (Int32.not_lt.mpr e)]
          simp [h1, ← Int32.not_lt]
      refine J_iload_n (i := 2) hT dX6_findStale_4 rfl rfl ?_
      refine J_aload_n (i := 0) hT dX6_findStale_5 rfl rfl ?_
      refine R_getP hT fX6_31 rfl dX6_findStale_6 hB.k hB.p3 ?_
      refine R_alen hT dX6_findStale_9 (by rw [hB.k5]; decide) hB.l5 ?_
      refine J_icmp_ge (tgt := 49) hT dX6_findStale_10 (by decide) (fun q => absurd q (Int32.not_le.mpr (nI_lt (a := i) (b := 5) (by omega) (by decide)))) (fun _ => ?_)
      refine J_iload_n (i := 1) hT dX6_findStale_13 rfl rfl ?_
      refine J_aload_n (i := 0) hT dX6_findStale_14 rfl rfl ?_
      refine R_getP hT fX6_31 rfl dX6_findStale_15 hB.k hB.p3 ?_
      refine J_iload_n (i := 2) hT dX6_findStale_18 rfl rfl ?_
      refine R_aald1 hT dX6_findStale_19 hB.k5 (by decide) hB.l5 (by first | exact ⟨rfl, by decide⟩ | exact zix_nI (by omega) (by decide) | assumption) (hB.pr hi5) ?_
      refine J_aload_n (i := 0) hT dX6_findStale_20 rfl rfl ?_
      refine R_getI hT fX6_49 rfl dX6_findStale_21 hB.k ?_
      refine J_topil (hM.1.w) ?_
      refine R_callV1 (ci := 3) hY dX6_findStale_24 mfX3_isFresh miX3_isFresh msX3_isFresh kX6_249 ⟨by decide, rfl⟩ (hB.kr hi5) (c_X3_isFresh hZ (hB.kr hi5)) rfl (by decide) rfl rfl (Nat.le_of_ble_eq_true rfl) (Nat.le_refl _) (Nat.le_refl _) ?_
      refine J_if_eq (tgt := 34) hT dX6_findStale_27 (by decide) (fun q27 => ?_) (fun q27 => ?_)
      · refine J_bipush (v := 12) hT dX6_findStale_34 rfl ?_
        refine J_iload_n (i := 2) hT dX6_findStale_36 rfl rfl ?_
        refine J_iadd hT dX6_findStale_37 ?_
        refine J_topil (nI_ad 12 i) ?_
        refine R_callS1 hY dX6_findStale_38 mfX8_bit mtX8_bit kX6_83 (c_X8_bit hZ) rfl (by decide) rfl rfl (Nat.le_of_ble_eq_true rfl) (Nat.le_refl _) (Nat.le_refl _) ?_
        refine J_topil (y := if oldB S i = true then (1 : Int32) <<< (nI (12 + i) &&& 31) else 0) ?_ ?_
        · rw [hM.1.rt hi5] at q27
          first
            | (have := zbi_0.mp q27; rw [this] at hold; simp [hold]; done)
            | (have := zbi_ne.mp q27; rw [this] at hold; simp [hold]; done)
        refine J_ior hT dX6_findStale_41 ?_
        refine S_istore1 hT dX6_findStale_42 rfl rfl ?_
        refine S_iinc2 hT dX6_findStale_43 (nI_inc _) rfl ?_
        refine J_goto (tgt := 4) hT dX6_findStale_46 (by decide) ?_
        exact ih (i + 1) (by omega)
      · refine J_iconst (v := 0) hT dX6_findStale_30 rfl ?_
        refine J_goto (tgt := 41) hT dX6_findStale_31 (by decide) ?_
        refine J_topil (y := if oldB S i = true then (1 : Int32) <<< (nI (12 + i) &&& 31) else 0) ?_ ?_
        · rw [hM.1.rt hi5] at q27
          first
            | (have := zbi_0.mp q27; rw [this] at hold; simp [hold]; done)
            | (have := zbi_ne.mp q27; rw [this] at hold; simp [hold]; done)
        refine J_ior hT dX6_findStale_41 ?_
        refine S_istore1 hT dX6_findStale_42 rfl rfl ?_
        refine S_iinc2 hT dX6_findStale_43 (nI_inc _) rfl ?_
        refine J_goto (tgt := 4) hT dX6_findStale_46 (by decide) ?_
        exact ih (i + 1) (by omega)
  refine J_iconst (v := 0) hT dX6_findStale_0 rfl ?_
  refine S_istore1 hT dX6_findStale_1 rfl rfl ?_
  refine J_iconst (v := 0) hT dX6_findStale_2 rfl ?_
  refine S_istore2 hT dX6_findStale_3 rfl rfl ?_
  exact loop1 5 0 rfl


