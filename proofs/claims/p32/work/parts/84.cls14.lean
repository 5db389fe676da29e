/-! services that hang on services: the least closed set -/
def eB (S : zS2) (k j : Nat) : Prop := bt (hangF S k) j = true
def cl5 (S : zS2) (x : Int32) : Prop := ∀ k j, k < 5 → j < 5 → bt x k = true → eB S k j → bt x j = true
def St5 (S : zS2) (x x' : Int32) : Prop := (∀ j, j < 5 → bt x j = true → bt x' j = true) ∧ (∀ k j, k < 5 → j < 5 → bt x k = true → eB S k j → bt x' j = true) ∧ ∀ M : Int32, cl5 S M → (∀ j, j < 5 → bt x j = true → bt M j = true) → ∀ j, j < 5 → bt x' j = true → bt M j = true
def cnt5 (x : Int32) : Nat := (List.range 5).countP (bt x)
theorem cnt5_le (x : Int32) : cnt5 x ≤ 5 := Nat.le_trans List.countP_le_length (by simp)
/-- how far: closed, or many -/
def Pr5 (S : zS2) (s r : Nat) (x : Int32) : Prop := (∀ j, j < 5 → eB S s j → bt x j = true) ∧ (cl5 S x ∨ r + 1 ≤ cnt5 x) ∧ ∀ M : Int32, cl5 S M → (∀ j, j < 5 → eB S s j → bt M j = true) → ∀ j, j < 5 → bt x j = true → bt M j = true
theorem Pr5.start {S : zS2} {s : Nat} {x : Int32} (h : hgN S s x) : Pr5 S s 0 x := by
  refine ⟨fun j hj e => by rw [h j hj]; exact e, ?_, fun M _ hM j hj q => hM j hj (by unfold eB; rw [← h j hj]; exact q)⟩
  by_cases e : ∃ j, j < 5 ∧ bt x j = true
  · obtain ⟨j, hj, hb⟩ := e
    refine Or.inr ?_
    exact List.countP_pos_iff.mpr ⟨j, List.mem_range.mpr hj, hb⟩
  · exact Or.inl (fun k j hk _ hb _ => absurd ⟨k, hk, hb⟩ e)
theorem Pr5.step {S : zS2} {s r : Nat} {x x' : Int32} (h : Pr5 S s r x) (hs : St5 S x x') : Pr5 S s (r + 1) x' := by
  obtain ⟨h1, h2, h3⟩ := h
  obtain ⟨s1, s2, s3⟩ := hs
  refine ⟨fun j hj e => s1 j hj (h1 j hj e), ?_, fun M hM hx => s3 M hM (h3 M hM hx)⟩
  by_cases hc : cl5 S x
  · refine Or.inl (fun k j hk hj hb he => ?_)
    have a := s3 x hc (fun _ _ q => q) k hk hb
    exact s1 j hj (hc k j hk hj a he)
  · refine Or.inr ?_
    have h4 := h2.resolve_left hc
    have : cnt5 x < cnt5 x' := by
      unfold cl5 at hc
      simp only [Classical.not_forall] at hc
      obtain ⟨k, j, hk, hj, hb, he, hn⟩ := hc
      exact countP_lt (fun y hy q => s1 y (List.mem_range.mp hy) q) (List.mem_range.mpr hj) (s2 k j hk hj hb he) (by simpa using hn)
    omega
theorem Pr5.cl {S : zS2} {s r : Nat} {x : Int32} (h : Pr5 S s r x) (hr : 5 ≤ r) : cl5 S x := h.2.1.resolve_right (fun q => by have := cnt5_le x; omega)
theorem Pr5.eq {S : zS2} {s r r' : Nat} {x x' : Int32} (h : Pr5 S s r x) (h' : Pr5 S s r' x') (hc : cl5 S x) (hc' : cl5 S x') {j : Nat} (hj : j < 5) : bt x j = bt x' j := by
  apply Bool.eq_iff_iff.mpr
  exact ⟨fun q => h.2.2 x' hc' h'.1 j hj q, fun q => h'.2.2 x hc h.1 j hj q⟩
theorem ilI_up (S : zS2) (x : Int32) (n : Nat) {j : Nat} (h : bt x j = true) : bt (ilI S x n) j = true := by
  induction n with
  | zero => exact h
  | succ n ih => rw [ilI, b_or, ih]; rfl
theorem ilI_le (S : zS2) (x : Int32) {n m : Nat} (hn : n ≤ m) {j : Nat} (h : bt (ilI S x n) j = true) : bt (ilI S x m) j = true := by
  induction m with
  | zero => rw [show n = 0 by omega] at h; exact h
  | succ m ih =>
    rcases Nat.lt_or_eq_of_le hn with q | q
    · rw [ilI, b_or, ih (by omega)]; rfl
    · rw [← q]; exact h
theorem ilI_st (S : zS2) (x : Int32) : St5 S x (ilI S x 5) := by
  refine ⟨fun j _ q => ilI_up S x 5 q, fun k j hk hj hb he => ?_, fun M hM hx => ?_⟩
  · refine ilI_le S x (show k + 1 ≤ 5 by omega) ?_
    rw [ilI, b_or, if_pos (ilI_up S x k hb), Bool.or_eq_true]
    exact Or.inr he
  · have : ∀ n, n ≤ 5 → ∀ j, j < 5 → bt (ilI S x n) j = true → bt M j = true := by
      intro n
      induction n with
      | zero => exact fun _ => hx
      | succ n ih =>
        intro hn j hj q
        rw [ilI, b_or, Bool.or_eq_true] at q
        rcases q with q | q
        · exact ih (by omega) j hj q
        · split at q
          · rename_i z
            exact hM n j (by omega) hj (ih (by omega) n (by omega) z) q
          · rw [b_0] at q; cases q
    exact this 5 (Nat.le_refl 5)
theorem ilO_pr (S : zS2) (s : Nat) : ∀ n, Pr5 S s n (ilO S (hangF S s) n) := by
  intro n
  induction n with
  | zero => exact Pr5.start (fun _ _ => rfl)
  | succ n ih => exact ih.step (ilI_st S _)
theorem loopB_of {S : zS2} {s r : Nat} (hs : s < 5) {x : Int32} (h : Pr5 S s r x) (hc : cl5 S x) : bt x s = loopB S s := h.eq (ilO_pr S s 5) hc ((ilO_pr S s 5).cl (Nat.le_refl 5)) hs
/-- within a round of the class -/
def In5 (S : zS2) (x : Int32) (k : Nat) (y : Int32) : Prop := (∀ j, j < 5 → bt x j = true → bt y j = true) ∧ (∀ i j, i < k → j < 5 → bt x i = true → eB S i j → bt y j = true) ∧ ∀ M : Int32, cl5 S M → (∀ j, j < 5 → bt x j = true → bt M j = true) → ∀ j, j < 5 → bt y j = true → bt M j = true
theorem In5.start (S : zS2) (x : Int32) : In5 S x 0 x := ⟨fun _ _ q => q, fun i j hi => absurd hi (by omega), fun _ _ hx => hx⟩
theorem In5.end {S : zS2} {x y : Int32} (h : In5 S x 5 y) : St5 S x y := ⟨h.1, fun k j hk => h.2.1 k j hk, h.2.2⟩
theorem In5.no {S : zS2} {x y : Int32} {k : Nat} (h : In5 S x k y) (hb : bt x k = false) : In5 S x (k + 1) y := by
  refine ⟨h.1, fun i j hi hj q e => ?_, h.2.2⟩
  by_cases z : i = k
  · subst z; rw [hb] at q; cases q
  · exact h.2.1 i j (by omega) hj q e
theorem In5.yes {S : zS2} {x y u : Int32} {k : Nat} (hk : k < 5) (h : In5 S x k y) (hb : bt x k = true) (hu : hgN S k u) : In5 S x (k + 1) (y ||| u) := by
  refine ⟨fun j hj q => by rw [b_or, h.1 j hj q]; rfl, fun i j hi hj q e => ?_, fun M hM hx j hj q => ?_⟩
  · by_cases z : i = k
    · subst z; rw [b_or, hu j hj, Bool.or_eq_true]; exact Or.inr e
    · rw [b_or, h.2.1 i j (by omega) hj q e]; rfl
  · rw [b_or, Bool.or_eq_true] at q
    rcases q with q | q
    · exact h.2.2 M hM hx j hj q
    · rw [hu j hj] at q
      exact hM k j hk hj (hx k hk hb) q

set_option maxRecDepth 100000 in
set_option maxHeartbeats 4000000 in
theorem c_X6_hangsOnItself {l : Launch} {Z : zZ} (hZ : zSt l Z) {μ : zMem} {σ : zS2} {π : zP2} {g : zG2} {t : Nat} (ht : ta t) {S : zS2} (hM : mo t μ σ π S) (hR : RI S) (hX : XI S) {s : Nat} (hs : s < 5) : zCt l Z mX6_hangsOnItself 3 0 0 [.ref t, .int (nI s)] (zA4 μ σ π g) (fun r μ' => r = some (.int (zbi (loopB S s))) ∧ μ' = zA4 μ σ π g) := by
  refine zCt_of hZ mpX6_hangsOnItself (Nat.le_of_ble_eq_true rfl) (L := [some (.ref t), some (.int (nI s)), none, none, none, none, none, none, none]) rfl (fun τ hY => ?_)
  have hT := hY.1
  have hB := hM.1.tb
  have loop : ∀ n i, i + n = 5 → ∀ fo x, Pr5 S s i x → (fo = x → cl5 S x) → zJ τ (zFn τ (fun r μ' => r = some (.int (zbi (loopB S s))) ∧ μ' = zA4 μ σ π g) 0 0) 33 [some (.ref t), some (.int (nI s)), some (.int fo), some (.int x), some (.int (nI i)), none, none, none, none] [] (zA4 μ σ π g) 0 0 := by
    intro n
    induction n with
    | zero =>
      intro i hi
      have : i = 5 := by omega
      subst this
      intro fo x hx _
      have hb := loopB_of hs hx (hx.cl (Nat.le_refl 5))
      refine J_iload (i := 4) hT dX6_hangsOnItself_33 rfl ?_
      refine J_iconst (v := 5) hT dX6_hangsOnItself_35 rfl ?_
      refine J_icmp_ge (tgt := 107) hT dX6_hangsOnItself_36 (by decide) (fun _ => ?_) (fun q => absurd (nI_le (a := 5) (b := 5) (by decide) (by decide)) q)
      refine J_iload_n (i := 3) hT dX6_hangsOnItself_107 rfl rfl ?_
      refine J_iload_n (i := 1) hT dX6_hangsOnItself_108 rfl rfl ?_
      refine R_callS1 hY dX6_hangsOnItself_109 mfX8_has mtX8_has kX6_184 (c_X8_has hZ (by omega)) rfl (by decide) rfl rfl (Nat.le_of_ble_eq_true rfl) (Nat.le_refl _) (Nat.le_refl _) ?_
      exact J_iret hT dX6_hangsOnItself_112 rfl (zbi_nar _) (⟨by rw [hb], rfl⟩) (Nat.le_refl _) (Nat.le_refl _)
    | succ n ih =>
      intro i hi
      intro fo x hx hfo
      by_cases he : x = fo
      · have hb := loopB_of hs hx (hfo he.symm)
        refine J_iload (i := 4) hT dX6_hangsOnItself_33 rfl ?_
        refine J_iconst (v := 5) hT dX6_hangsOnItself_35 rfl ?_
        refine J_icmp_ge (tgt := 107) hT dX6_hangsOnItself_36 (by decide) (fun q => absurd q (Int32.not_le.mpr (nI_lt (a := i) (b := 5) (by omega) (by decide)))) (fun _ => ?_)
        refine J_iload_n (i := 3) hT dX6_hangsOnItself_39 rfl rfl ?_
        refine J_iload_n (i := 2) hT dX6_hangsOnItself_40 rfl rfl ?_
        refine J_icmp_eq (tgt := 107) hT dX6_hangsOnItself_41 (by decide) (fun _ => ?_) (fun q => absurd (he) q)
        refine J_iload_n (i := 3) hT dX6_hangsOnItself_107 rfl rfl ?_
        refine J_iload_n (i := 1) hT dX6_hangsOnItself_108 rfl rfl ?_
        refine R_callS1 hY dX6_hangsOnItself_109 mfX8_has mtX8_has kX6_184 (c_X8_has hZ (by omega)) rfl (by decide) rfl rfl (Nat.le_of_ble_eq_true rfl) (Nat.le_refl _) (Nat.le_refl _) ?_
        exact J_iret hT dX6_hangsOnItself_112 rfl (zbi_nar _) (⟨by rw [hb], rfl⟩) (Nat.le_refl _) (Nat.le_refl _)
      · have inner : ∀ n2 k, k + n2 = 5 → ∀ y, In5 S x k y → zJ τ (zFn τ (fun r μ' => r = some (.int (zbi (loopB S s))) ∧ μ' = zA4 μ σ π g) 0 0) 60 [some (.ref t), some (.int (nI s)), some (.int x), some (.int y), some (.int (nI i)), some (.ref (t + 6)), some (.int (nI 5)), some (.int (nI k)), none] [] (zA4 μ σ π g) 0 0 := by
          intro n2
          induction n2 with
          | zero =>
            intro k hk
            have : k = 5 := by omega
            subst this
            intro y hy
            refine J_iload (i := 7) hT dX6_hangsOnItself_60 rfl ?_
            refine J_iload (i := 6) hT dX6_hangsOnItself_62 rfl ?_
            refine J_icmp_ge (tgt := 101) hT dX6_hangsOnItself_64 (by decide) (fun _ => ?_) (fun q => absurd (nI_le (a := 5) (b := 5) (by decide) (by decide)) q)
            refine S_iinc4 hT dX6_hangsOnItself_101 (nI_inc _) rfl ?_
            refine J_goto (tgt := 33) hT dX6_hangsOnItself_104 (by decide) ?_
            refine J_L (L' := [_, _, _, _, _, none, none, none, none]) (zsub_keep (zsub_keep (zsub_keep (zsub_keep (zsub_keep (zsub_drop (zsub_drop (zsub_drop (zsub_drop zsub_nil))))))))) ?_
            exact ih (i + 1) (by omega) x y (hx.step hy.end) (fun q => q ▸ (fun k j hk hj hb e => by
              rw [q]
              exact hy.end.2.1 k j hk hj hb e))
          | succ n2 ih2 =>
            intro k hk
            intro y hy
            have hk5 : k < 5 := by omega
            refine J_iload (i := 7) hT dX6_hangsOnItself_60 rfl ?_
            refine J_iload (i := 6) hT dX6_hangsOnItself_62 rfl ?_
            refine J_icmp_ge (tgt := 101) hT dX6_hangsOnItself_64 (by decide) (fun q => absurd q (Int32.not_le.mpr (nI_lt (a := k) (b := 5) (by omega) (by decide)))) (fun _ => ?_)
            refine J_aload (i := 5) hT dX6_hangsOnItself_67 rfl ?_
            refine J_iload (i := 7) hT dX6_hangsOnItself_69 rfl ?_
            refine R_aald1 hT dX6_hangsOnItself_71 hB.k6 (by decide) hB.l6 (by first | exact ⟨rfl, by decide⟩ | exact zix_nI (by omega) (by decide) | assumption) (hB.ps hk5) ?_
            refine S_astore8 hT dX6_hangsOnItself_72 rfl ?_
            refine J_iload_n (i := 2) hT dX6_hangsOnItself_74 rfl rfl ?_
            refine J_aload (i := 8) hT dX6_hangsOnItself_75 rfl ?_
            refine R_getI hT fX6_195 rfl dX6_hangsOnItself_77 (hB.ks hk5) ?_
            refine J_topil (hM.1.ns hk5) ?_
            refine R_callS1 hY dX6_hangsOnItself_80 mfX8_has mtX8_has kX6_184 (c_X8_has hZ (by omega)) rfl (by decide) rfl rfl (Nat.le_of_ble_eq_true rfl) (Nat.le_refl _) (Nat.le_refl _) ?_
            refine J_if_eq (tgt := 95) hT dX6_hangsOnItself_83 (by decide) (fun q83 => ?_) (fun q83 => ?_)
            · refine S_iinc7 hT dX6_hangsOnItself_95 (nI_inc _) rfl ?_
              refine J_goto (tgt := 60) hT dX6_hangsOnItself_98 (by decide) ?_
              refine J_L (L' := [_, _, _, _, _, _, _, _, none]) (zsub_keep (zsub_keep (zsub_keep (zsub_keep (zsub_keep (zsub_keep (zsub_keep (zsub_keep (zsub_drop zsub_nil))))))))) ?_
              first
                | exact ih2 (k + 1) (by omega) _ (hy.no (zbi_0.mp q83))
                | exact ih2 (k + 1) (by omega) _ (hy.yes hk5 (zbi_ne.mp q83) hu)
            · refine J_iload_n (i := 3) hT dX6_hangsOnItself_86 rfl rfl ?_
              refine J_aload_n (i := 0) hT dX6_hangsOnItself_87 rfl rfl ?_
              refine J_aload (i := 8) hT dX6_hangsOnItself_88 rfl ?_
              refine J_callV (ci := 6) hY dX6_hangsOnItself_90 mfX6_servicesUnder miX6_servicesUnder msX6_servicesUnder kX6_252 ⟨by decide, rfl⟩ hB.k (c_X6_servicesUnder hZ ht hM hR.2.1 hk5 (hR.2.2.1 _ hk5)) rfl (by decide) rfl rfl (Nat.le_of_ble_eq_true rfl) (Nat.le_refl _) (Nat.le_refl _) (fun r1 μ1 hq1 => ?_)
              obtain ⟨⟨u, rfl, hu⟩, rfl⟩ := hq1
              show zJ _ _ _ _ (.int u :: _) _ _ _
              refine J_ior hT dX6_hangsOnItself_93 ?_
              refine S_istore3 hT dX6_hangsOnItself_94 rfl rfl ?_
              refine S_iinc7 hT dX6_hangsOnItself_95 (nI_inc _) rfl ?_
              refine J_goto (tgt := 60) hT dX6_hangsOnItself_98 (by decide) ?_
              refine J_L (L' := [_, _, _, _, _, _, _, _, none]) (zsub_keep (zsub_keep (zsub_keep (zsub_keep (zsub_keep (zsub_keep (zsub_keep (zsub_keep (zsub_drop zsub_nil))))))))) ?_
              first
                | exact ih2 (k + 1) (by omega) _ (hy.no (zbi_0.mp q83))
                | exact ih2 (k + 1) (by omega) _ (hy.yes hk5 (zbi_ne.mp q83) hu)
        refine J_iload (i := 4) hT dX6_hangsOnItself_33 rfl ?_
        refine J_iconst (v := 5) hT dX6_hangsOnItself_35 rfl ?_
        refine J_icmp_ge (tgt := 107) hT dX6_hangsOnItself_36 (by decide) (fun q => absurd q (Int32.not_le.mpr (nI_lt (a := i) (b := 5) (by omega) (by decide)))) (fun _ => ?_)
        refine J_iload_n (i := 3) hT dX6_hangsOnItself_39 rfl rfl ?_
        refine J_iload_n (i := 2) hT dX6_hangsOnItself_40 rfl rfl ?_
        refine J_icmp_eq (tgt := 107) hT dX6_hangsOnItself_41 (by decide) (fun q => absurd q (he)) (fun _ => ?_)
        refine J_iload_n (i := 3) hT dX6_hangsOnItself_44 rfl rfl ?_
        refine S_istore2 hT dX6_hangsOnItself_45 rfl rfl ?_
        refine J_aload_n (i := 0) hT dX6_hangsOnItself_46 rfl rfl ?_
        refine R_getP hT fX6_37 rfl dX6_hangsOnItself_47 hB.k hB.p4 ?_
        refine S_astore5 hT dX6_hangsOnItself_50 rfl ?_
        refine J_aload (i := 5) hT dX6_hangsOnItself_52 rfl ?_
        refine R_alen hT dX6_hangsOnItself_54 (by rw [hB.k6]; decide) hB.l6 ?_
        refine S_istore6 hT dX6_hangsOnItself_55 rfl ?_
        refine J_iconst (v := 0) hT dX6_hangsOnItself_57 rfl ?_
        refine S_istore7 hT dX6_hangsOnItself_58 rfl ?_
        exact inner 5 0 rfl x (In5.start S x)
  refine J_iconst (v := 0) hT dX6_hangsOnItself_0 rfl ?_
  refine S_istore2 hT dX6_hangsOnItself_1 rfl rfl ?_
  refine J_iload_n (i := 1) hT dX6_hangsOnItself_2 rfl rfl ?_
  refine J_if_lt (tgt := 28) hT dX6_hangsOnItself_3 (by decide) (fun q => absurd q (nI_pos (by omega))) (fun _ => ?_)
  refine J_iload_n (i := 1) hT dX6_hangsOnItself_6 rfl rfl ?_
  refine J_aload_n (i := 0) hT dX6_hangsOnItself_7 rfl rfl ?_
  refine R_getP hT fX6_37 rfl dX6_hangsOnItself_8 hB.k hB.p4 ?_
  refine R_alen hT dX6_hangsOnItself_11 (by rw [hB.k6]; decide) hB.l6 ?_
  refine J_icmp_ge (tgt := 28) hT dX6_hangsOnItself_12 (by decide) (fun q => absurd q (Int32.not_le.mpr (nI_lt (a := s) (b := 5) (by omega) (by decide)))) (fun _ => ?_)
  refine J_aload_n (i := 0) hT dX6_hangsOnItself_15 rfl rfl ?_
  refine J_aload_n (i := 0) hT dX6_hangsOnItself_16 rfl rfl ?_
  refine R_getP hT fX6_37 rfl dX6_hangsOnItself_17 hB.k hB.p4 ?_
  refine J_iload_n (i := 1) hT dX6_hangsOnItself_20 rfl rfl ?_
  refine R_aald1 hT dX6_hangsOnItself_21 hB.k6 (by decide) hB.l6 (by first | exact ⟨rfl, by decide⟩ | exact zix_nI (by omega) (by decide) | assumption) (hB.ps hs) ?_
  refine J_callV (ci := 6) hY dX6_hangsOnItself_22 mfX6_servicesUnder miX6_servicesUnder msX6_servicesUnder kX6_252 ⟨by decide, rfl⟩ hB.k (c_X6_servicesUnder hZ ht hM hR.2.1 hs (hR.2.2.1 _ hs)) rfl (by decide) rfl rfl (Nat.le_of_ble_eq_true rfl) (Nat.le_refl _) (Nat.le_refl _) (fun r1 μ1 hq1 => ?_)
  obtain ⟨⟨u, rfl, hu⟩, rfl⟩ := hq1
  show zJ _ _ _ _ (.int u :: _) _ _ _
  refine J_goto (tgt := 29) hT dX6_hangsOnItself_25 (by decide) ?_
  refine S_istore3 hT dX6_hangsOnItself_29 rfl rfl ?_
  refine J_iconst (v := 0) hT dX6_hangsOnItself_30 rfl ?_
  refine S_istore4 hT dX6_hangsOnItself_31 rfl ?_
  exact loop 5 0 rfl 0 u (Pr5.start hu) (fun q => by
    rw [← q]
    intro k j _ _ hb _
    rw [b_0] at hb; cases hb)


