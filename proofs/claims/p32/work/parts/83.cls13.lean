def WA (S : zS2) (m a : Int32) : Prop := (∀ c, c < 12 → bt a c = bt (belF S false m) c) ∧ (∀ s, s < 5 → (bt a (17 + s) = true ↔ (bt m (17 + s) = true ∨ ∃ c, c < 12 ∧ bt (belF S false m) c = true ∧ bt (S 78 c) s = true))) ∧ ∀ j, 22 ≤ j → j < 32 → bt a j = bt m j
def pI : Nat → Int32
  | 0 => -1
  | n + 1 => nI n
theorem pI_dec (n : Nat) : nI n + Int32.ofInt (-1) = pI n := by
  cases n with
  | zero => decide
  | succ n =>
    show nI (n + 1) + Int32.ofInt (-1) = nI n
    have := nI_pred n
    rw [← this, Int32.sub_eq_add_neg]
    rfl
/-- one pass from the last cell of the order to the first -/
def WI (S : zS2) (ρ : Nat → Nat) (m : Int32) (n : Nat) (a : Int32) : Prop :=
  (∀ c, c < 12 → bt a c = true → bt (belF S false m) c = true) ∧ (∀ j, j < 32 → bt m j = true → bt a j = true) ∧ (∀ q, n ≤ q → q < 12 → bt a (ρ q) = true → (∀ j, j < 12 → bt (S 76 (ρ q)) j = true → bt a j = true) ∧ ∀ s, s < 5 → bt (S 78 (ρ q)) s = true → bt a (17 + s) = true)
  ∧ (∀ s, s < 5 → bt a (17 + s) = true → (bt m (17 + s) = true ∨ ∃ c, c < 12 ∧ bt (belF S false m) c = true ∧ bt (S 78 c) s = true)) ∧ ∀ j, 22 ≤ j → j < 32 → bt a j = bt m j
theorem WI.end {S : zS2} {ρ : Nat → Nat} {m a : Int32} (hρ : ∀ c, c < 12 → ∃ i, i < 12 ∧ ρ i = c) (h : WI S ρ m 0 a) : WA S m a := by
  obtain ⟨h1, h2, h3, h4, h5⟩ := h
  have hc : clos S false a := fun k j hk hj hb _ hr => by
    obtain ⟨q, hq, e⟩ := hρ k hk
    subst e
    exact (h3 q (Nat.zero_le _) hq hb).1 j hj hr
  have he : ∀ c, c < 12 → bt a c = bt (belF S false m) c := fun c hcc => by
    cases hb : bt (belF S false m) c with
    | false =>
      cases ha : bt a c with
      | false => rfl
      | true => exact absurd (h1 c hcc ha) (by rw [hb]; decide)
    | true => exact belF_in S false hc (fun i hi q => h2 i (by omega) q) c hcc hb
  refine ⟨he, fun s hs => ⟨h4 s hs, fun q => ?_⟩, h5⟩
  rcases q with q | ⟨c, hcc, hb, hr⟩
  · exact h2 _ (by omega) q
  · obtain ⟨i, hi, e⟩ := hρ c hcc
    subst e
    exact (h3 i (Nat.zero_le _) hi (by rw [he _ hcc]; exact hb)).2 s hs hr
theorem WI.no {S : zS2} {ρ : Nat → Nat} {m a : Int32} {n : Nat} (h : WI S ρ m (n + 1) a) (hb : bt a (ρ n) = false) : WI S ρ m n a := by
  obtain ⟨h1, h2, h3, h4, h5⟩ := h
  refine ⟨h1, h2, fun q hq hq2 hb2 => ?_, h4, h5⟩
  by_cases e : q = n
  · subst e; rw [hb] at hb2; cases hb2
  · exact h3 q (by omega) hq2 hb2
theorem pos_lt {S : zS2} {ρ : Nat → Nat} (hD : DepthOK S) (hρ1 : ∀ i, i < 12 → ρ i < 12) (hρ3 : ∀ i j, i < j → j < 12 → kls S (ρ i) (ρ j)) {p q : Nat} (hp : p < 12) (hq : q < 12) (hb : bt (S 76 (ρ p)) (ρ q) = true) : q < p := by
  apply Classical.byContradiction
  intro hn
  have hdd := hD (ρ p) (ρ q) (hρ1 p hp) (hρ1 q hq) hb
  rcases Nat.lt_or_eq_of_le (Nat.not_lt.mp hn) with h | h
  · rcases hρ3 p q h hq with h3 | h3
    · exact absurd (Int32.lt_trans hdd h3) Int32.lt_irrefl
    · rw [h3.1] at hdd; exact absurd hdd Int32.lt_irrefl
  · rw [h] at hdd; exact absurd hdd Int32.lt_irrefl
theorem WI.yes {S : zS2} {ρ : Nat → Nat} (hD : DepthOK S) (hρ1 : ∀ i, i < 12 → ρ i < 12) (hρ2 : ∀ c, c < 12 → ∃ i, i < 12 ∧ ρ i = c) (hρ3 : ∀ i j, i < j → j < 12 → kls S (ρ i) (ρ j)) {m a rd : Int32} {n : Nat} (hn : n < 12) (h : WI S ρ m (n + 1) a) (hb : bt a (ρ n) = true)
    (hr1 : ∀ j, j < 12 → bt rd j = bt (S 76 (ρ n)) j) (hr2 : ∀ s, s < 5 → bt rd (17 + s) = bt (S 78 (ρ n)) s) (hr3 : ∀ j, 22 ≤ j → bt rd j = false) : WI S ρ m n (a ||| rd) := by
  obtain ⟨h1, h2, h3, h4, h5⟩ := h
  have hcl := h1 (ρ n) (hρ1 n hn) hb
  refine ⟨fun c hc q => ?_, fun j hj q => by rw [b_or, h2 j hj q]; rfl, fun q hq hq2 hb2 => ?_, fun s hs q => ?_, fun j hj hj2 => by rw [b_or, hr3 j hj, Bool.or_false]; exact h5 j hj hj2⟩
  · rw [b_or, Bool.or_eq_true] at q
    rcases q with q | q
    · exact h1 c hc q
    · rw [hr1 c hc] at q
      exact belF_clos S false m (ρ n) c (hρ1 n hn) hc hcl rfl q
  · by_cases e : q = n
    · subst e
      exact ⟨fun j hj z => by rw [b_or, hr1 j hj, z, Bool.or_true], fun s hs z => by rw [b_or, hr2 s hs, z, Bool.or_true]⟩
    · have hb3 : bt a (ρ q) = true := by
        rw [b_or, Bool.or_eq_true] at hb2
        rcases hb2 with z | z
        · exact z
        · rw [hr1 _ (hρ1 q hq2)] at z
          have := pos_lt hD hρ1 hρ3 hn hq2 z
          omega
      obtain ⟨a1, a2⟩ := h3 q (by omega) hq2 hb3
      exact ⟨fun j hj z => by rw [b_or, a1 j hj z]; rfl, fun s hs z => by rw [b_or, a2 s hs z]; rfl⟩
  · rw [b_or, Bool.or_eq_true] at q
    rcases q with q | q
    · exact h4 s hs q
    · rw [hr2 s hs] at q
      exact Or.inr ⟨ρ n, hρ1 n hn, hcl, q⟩

set_option maxRecDepth 100000 in
set_option maxHeartbeats 4000000 in
theorem c_X6_withAllRead {l : Launch} {Z : zZ} (hZ : zSt l Z) {μ : zMem} {σ : zS2} {π : zP2} {g : zG2} {t : Nat} (ht : ta t) {S : zS2} (hM : mo t μ σ π S) (hD : DepthOK S) {m : Int32} : zCt l Z mX6_withAllRead 1 0 0 [.ref t, .int m] (zA4 μ σ π g) (fun r μ' => (∃ a, r = some (.int a) ∧ WA S m a) ∧ μ' = zA4 μ σ π g) := by
  refine zCt_of hZ mpX6_withAllRead (Nat.le_of_ble_eq_true rfl) (L := [some (.ref t), some (.int m), none, none]) rfl (fun τ hY => ?_)
  have hT := hY.1
  have hB := hM.1.tb
  obtain ⟨ρ, hρ1, hρ2, hρ3⟩ := hM.2
  have loop : ∀ n, ∀ a, WI S ρ m n a → n ≤ 12 → zJ τ (zFn τ (fun r μ' => (∃ a, r = some (.int a) ∧ WA S m a) ∧ μ' = zA4 μ σ π g) 0 0) 10 [some (.ref t), some (.int m), some (.int a), some (.int (pI n))] [] (zA4 μ σ π g) 0 0 := by
    intro n
    induction n with
    | zero =>
      intro a hI _
      refine J_iload_n (i := 3) hT dX6_withAllRead_10 rfl rfl ?_
      refine J_if_lt (tgt := 51) hT dX6_withAllRead_11 (by decide) (fun _ => ?_) (fun q => absurd ((show (-1 : Int32) < 0 by decide)) q)
      refine J_iload_n (i := 2) hT dX6_withAllRead_51 rfl rfl ?_
      exact J_iret hT dX6_withAllRead_52 rfl rfl (⟨⟨a, rfl, hI.end hρ2⟩, rfl⟩) (Nat.le_refl _) (Nat.le_refl _)
    | succ n ih =>
      intro a hI h12
      have hn12 : n < 12 := by omega
      obtain ⟨hc, hpc⟩ := hρ1 n hn12
      obtain ⟨f, hf, hF⟩ := hM.1.fm hc
      refine J_iload_n (i := 3) hT dX6_withAllRead_10 rfl rfl ?_
      refine J_if_lt (tgt := 51) hT dX6_withAllRead_11 (by decide) (fun q => absurd q (nI_pos (by omega))) (fun _ => ?_)
      refine J_iload_n (i := 2) hT dX6_withAllRead_14 rfl rfl ?_
      refine J_aload_n (i := 0) hT dX6_withAllRead_15 rfl rfl ?_
      refine R_getP hT fX6_26 rfl dX6_withAllRead_16 hB.k hB.p2 ?_
      refine J_iload_n (i := 3) hT dX6_withAllRead_19 rfl rfl ?_
      refine R_aald1 hT dX6_withAllRead_20 hB.k4 (by decide) hB.l4 (zix_nI (j := n) (by omega) (by decide)) hpc ?_
      refine R_getI hT fX6_130 rfl dX6_withAllRead_21 (hB.kc hc) ?_
      refine J_topil (hM.1.nc hc) ?_
      refine R_callS1 hY dX6_withAllRead_24 mfX8_has mtX8_has kX6_184 (c_X8_has hZ (by omega)) rfl (by decide) rfl rfl (Nat.le_of_ble_eq_true rfl) (Nat.le_refl _) (Nat.le_refl _) ?_
      refine J_if_eq (tgt := 45) hT dX6_withAllRead_27 (by decide) (fun q27 => ?_) (fun q27 => ?_)
      · refine S_iinc3 hT dX6_withAllRead_45 (pI_dec n) rfl ?_
        refine J_goto (tgt := 10) hT dX6_withAllRead_48 (by decide) ?_
        first
          | exact ih _ (hI.no (zbi_0.mp q27)) (by omega)
          | exact ih _ (hI.yes hD (fun i hi => (hρ1 i hi).1) hρ2 hρ3 hn12 (zbi_ne.mp q27) (fun j hj => hM.1.b76 hc hf hj) (fun s hs => hM.1.b78 hc hf hs) hF.2.2.2.2.2.2.1) (by omega)
      · refine J_iload_n (i := 2) hT dX6_withAllRead_30 rfl rfl ?_
        refine J_aload_n (i := 0) hT dX6_withAllRead_31 rfl rfl ?_
        refine R_getP hT fX6_26 rfl dX6_withAllRead_32 hB.k hB.p2 ?_
        refine J_iload_n (i := 3) hT dX6_withAllRead_35 rfl rfl ?_
        refine R_aald1 hT dX6_withAllRead_36 hB.k4 (by decide) hB.l4 (zix_nI (j := n) (by omega) (by decide)) hpc ?_
        refine R_getP hT fX6_62 rfl dX6_withAllRead_37 (hB.kc hc) hf ?_
        refine R_getI hT fX6_196 rfl dX6_withAllRead_40 hF.2.2.1 ?_
        refine J_ior hT dX6_withAllRead_43 ?_
        refine S_istore2 hT dX6_withAllRead_44 rfl rfl ?_
        refine S_iinc3 hT dX6_withAllRead_45 (pI_dec n) rfl ?_
        refine J_goto (tgt := 10) hT dX6_withAllRead_48 (by decide) ?_
        first
          | exact ih _ (hI.no (zbi_0.mp q27)) (by omega)
          | exact ih _ (hI.yes hD (fun i hi => (hρ1 i hi).1) hρ2 hρ3 hn12 (zbi_ne.mp q27) (fun j hj => hM.1.b76 hc hf hj) (fun s hs => hM.1.b78 hc hf hs) hF.2.2.2.2.2.2.1) (by omega)
  refine J_iload_n (i := 1) hT dX6_withAllRead_0 rfl rfl ?_
  refine S_istore2 hT dX6_withAllRead_1 rfl rfl ?_
  refine J_aload_n (i := 0) hT dX6_withAllRead_2 rfl rfl ?_
  refine R_getP hT fX6_26 rfl dX6_withAllRead_3 hB.k hB.p2 ?_
  refine R_alen hT dX6_withAllRead_6 (by rw [hB.k4]; decide) hB.l4 ?_
  refine J_iconst (v := 1) hT dX6_withAllRead_7 rfl ?_
  refine J_isub hT dX6_withAllRead_8 ?_
  refine J_topil ((show nI 12 - 1 = pI 12 from nI_pred 11)) ?_
  refine S_istore3 hT dX6_withAllRead_9 rfl rfl ?_
  exact loop 12 m ⟨fun c hc q => belF_up S false m q, fun _ _ q => q, fun q h1 h2 => absurd h2 (by omega), fun s hs q => Or.inl q, fun _ _ _ => rfl⟩ (Nat.le_refl _)

theorem hgP_bt (S : zS2) (x y : Int32) (j : Nat) : ∀ n, bt (hgP S x y n) j = true ↔ (bt y j = true ∨ ∃ c, c < n ∧ bt x c = true ∧ bt (S 78 c) j = true) := by
  intro n
  induction n with
  | zero => simp [hgP]
  | succ n ih =>
    rw [hgP, b_or, Bool.or_eq_true, ih]
    constructor
    · rintro ((h | ⟨c, h1, h2⟩) | h)
      · exact Or.inl h
      · exact Or.inr ⟨c, by omega, h2⟩
      · split at h
        · rename_i q; exact Or.inr ⟨n, by omega, q, h⟩
        · rw [b_0] at h; cases h
    · rintro (h | ⟨c, h1, h2, h3⟩)
      · exact Or.inl (Or.inl h)
      · by_cases e : c = n
        · subst e; exact Or.inr (by rw [if_pos h2]; exact h3)
        · exact Or.inl (Or.inr ⟨c, by omega, h2, h3⟩)
theorem ctlM_n : ctlM (-1) = 0 := by decide
theorem ctlM_c {c : Nat} (h : c < 12) : ctlM (nI c) = (1 : Int32) <<< (nI c &&& 31) := if_neg (nI_n0 h)
theorem ctlM_hi {x : Int32} (hx : okC x) {j : Nat} (h1 : 12 ≤ j) (h2 : j < 32) : bt (ctlM x) j = false := by
  rcases hx with e | ⟨c, hc, e⟩
  · rw [e, ctlM_n, b_0]
  · rw [e, ctlM_c hc, b_one c (by omega) h2]; simp; omega
theorem ctlM_if {x : Int32} (hx : okC x) : (if x = -1 then 0 else (1 : Int32) <<< (x &&& 31)) = ctlM x := by
  rcases hx with e | ⟨c, hc, e⟩
  · rw [e, ctlM_n]; rfl
  · rw [e, ctlM_c hc, if_neg]
    intro q
    have := nI_n0 hc
    rw [q] at this
    exact this (by decide)
def hgN (S : zS2) (s : Nat) (u : Int32) : Prop := ∀ j, j < 5 → bt u j = bt (hangF S s) j
theorem hgN_of {S : zS2} {s : Nat} (hs : okC (S 82 s) ∧ okC (S 83 s)) {a : Int32} (h : WA S (ctlM (S 82 s) ||| ctlM (S 83 s)) a) : hgN S s (S 84 s ||| a >>> ((17 : Int32) &&& 31)) := by
  intro j hj
  have e1 : bt (S 84 s ||| a >>> ((17 : Int32) &&& 31)) j = (bt (S 84 s) j || bt a (17 + j)) := by
    rw [b_or, show (17 : Int32) = nI 17 from rfl, b_sshr 17 (by decide) a (by omega), if_pos (by omega)]
  rw [e1]
  have e2 := h.2.1 j hj
  have e3 : bt (ctlM (S 82 s) ||| ctlM (S 83 s)) (17 + j) = false := by rw [b_or, ctlM_hi hs.1 (by omega) (by omega), ctlM_hi hs.2 (by omega) (by omega)]; rfl
  rw [e3] at e2
  have e4 := hgP_bt S (belF S false (ctlM (S 82 s) ||| ctlM (S 83 s))) (S 84 s) j 12
  unfold hangF
  apply Bool.eq_iff_iff.mpr
  rw [e4, Bool.or_eq_true, e2]
  simp

set_option maxRecDepth 100000 in
set_option maxHeartbeats 4000000 in
theorem c_X6_servicesUnder {l : Launch} {Z : zZ} (hZ : zSt l Z) {μ : zMem} {σ : zS2} {π : zP2} {g : zG2} {t : Nat} (ht : ta t) {S : zS2} (hM : mo t μ σ π S) (hD : DepthOK S) {s : Nat} (hs : s < 5) (hk : okC (S 82 s) ∧ okC (S 83 s)) : zCt l Z mX6_servicesUnder 2 0 0 [.ref t, .ref (t + 25 + s)] (zA4 μ σ π g) (fun r μ' => (∃ u, r = some (.int u) ∧ hgN S s u) ∧ μ' = zA4 μ σ π g) := by
  refine zCt_of hZ mpX6_servicesUnder (Nat.le_of_ble_eq_true rfl) (L := [some (.ref t), some (.ref (t + 25 + s)), none]) rfl (fun τ hY => ?_)
  have hT := hY.1
  have hB := hM.1.tb
  have t40 : zJ τ (zFn τ (fun r μ' => (∃ u, r = some (.int u) ∧ hgN S s u) ∧ μ' = zA4 μ σ π g) 0 0) 40 [some (.ref t), some (.ref (t + 25 + s)), none] [.int (ctlM (S 83 s)), .int (ctlM (S 82 s))] (zA4 μ σ π g) 0 0 := by
    refine J_ior hT dX6_servicesUnder_40 ?_
    refine S_istore2 hT dX6_servicesUnder_41 rfl rfl ?_
    refine J_aload_n (i := 1) hT dX6_servicesUnder_42 rfl rfl ?_
    refine R_getI hT fX6_153 rfl dX6_servicesUnder_43 (hB.ks hs) ?_
    refine J_topil (hM.1.nds hs) ?_
    refine J_aload_n (i := 0) hT dX6_servicesUnder_46 rfl rfl ?_
    refine J_iload_n (i := 2) hT dX6_servicesUnder_47 rfl rfl ?_
    refine J_callV (ci := 6) hY dX6_servicesUnder_48 mfX6_withAllRead miX6_withAllRead msX6_withAllRead kX6_255 ⟨by decide, rfl⟩ hB.k (c_X6_withAllRead hZ ht hM hD) rfl (by decide) rfl rfl (Nat.le_of_ble_eq_true rfl) (Nat.le_refl _) (Nat.le_refl _) (fun r1 μ1 hq1 => ?_)
    obtain ⟨⟨a, rfl, ha⟩, rfl⟩ := hq1
    show zJ _ _ _ _ (.int a :: _) _ _ _
    refine J_bipush (v := 17) hT dX6_servicesUnder_51 rfl ?_
    refine J_ishr hT dX6_servicesUnder_53 ?_
    refine J_ior hT dX6_servicesUnder_54 ?_
    exact J_iret hT dX6_servicesUnder_55 rfl rfl (⟨⟨_, rfl, hgN_of hk ha⟩, rfl⟩) (Nat.le_refl _) (Nat.le_refl _)
  have t19 : zJ τ (zFn τ (fun r μ' => (∃ u, r = some (.int u) ∧ hgN S s u) ∧ μ' = zA4 μ σ π g) 0 0) 19 [some (.ref t), some (.ref (t + 25 + s)), none] [.int (ctlM (S 82 s))] (zA4 μ σ π g) 0 0 := by
    refine S_istore2 hT dX6_servicesUnder_19 rfl rfl ?_
    refine J_iload_n (i := 2) hT dX6_servicesUnder_20 rfl rfl ?_
    refine J_aload_n (i := 1) hT dX6_servicesUnder_21 rfl rfl ?_
    refine R_getI hT fX6_141 rfl dX6_servicesUnder_22 (hB.ks hs) ?_
    refine J_topil (hM.1.lim hs) ?_
    refine J_iconst (v := -1) hT dX6_servicesUnder_25 rfl ?_
    refine J_icmp_ne (tgt := 33) hT dX6_servicesUnder_26 (by decide) (fun q26 => ?_) (fun q26 => ?_)
    · refine J_aload_n (i := 1) hT dX6_servicesUnder_33 rfl rfl ?_
      refine R_getI hT fX6_141 rfl dX6_servicesUnder_34 (hB.ks hs) ?_
      refine J_topil (hM.1.lim hs) ?_
      refine R_callS1 hY dX6_servicesUnder_37 mfX8_bit mtX8_bit kX6_83 (c_X8_bit hZ) rfl (by decide) rfl rfl (Nat.le_of_ble_eq_true rfl) (Nat.le_refl _) (Nat.le_refl _) ?_
      refine J_topil (y := ctlM (S 83 s)) ?_ ?_
      · rw [← ctlM_if hk.2]
        first
          | (rw [if_pos q26]; done)
          | (rw [if_neg q26]; done)
      refine J_L (L' := [_, _, none]) (zsub_keep (zsub_keep (zsub_drop zsub_nil))) ?_
      exact t40
    · refine J_iconst (v := 0) hT dX6_servicesUnder_29 rfl ?_
      refine J_goto (tgt := 40) hT dX6_servicesUnder_30 (by decide) ?_
      refine J_topil (y := ctlM (S 83 s)) ?_ ?_
      · rw [← ctlM_if hk.2]
        first
          | (rw [if_pos q26]; done)
          | (rw [if_neg q26]; done)
      refine J_L (L' := [_, _, none]) (zsub_keep (zsub_keep (zsub_drop zsub_nil))) ?_
      exact t40
  refine J_aload_n (i := 1) hT dX6_servicesUnder_0 rfl rfl ?_
  refine R_getI hT fX6_138 rfl dX6_servicesUnder_1 (hB.ks hs) ?_
  refine J_topil (hM.1.ctl hs) ?_
  refine J_iconst (v := -1) hT dX6_servicesUnder_4 rfl ?_
  refine J_icmp_ne (tgt := 12) hT dX6_servicesUnder_5 (by decide) (fun q5 => ?_) (fun q5 => ?_)
  · refine J_aload_n (i := 1) hT dX6_servicesUnder_12 rfl rfl ?_
    refine R_getI hT fX6_138 rfl dX6_servicesUnder_13 (hB.ks hs) ?_
    refine J_topil (hM.1.ctl hs) ?_
    refine R_callS1 hY dX6_servicesUnder_16 mfX8_bit mtX8_bit kX6_83 (c_X8_bit hZ) rfl (by decide) rfl rfl (Nat.le_of_ble_eq_true rfl) (Nat.le_refl _) (Nat.le_refl _) ?_
    refine J_topil (y := ctlM (S 82 s)) ?_ ?_
    · rw [← ctlM_if hk.1]
      first
        | (rw [if_pos q5]; done)
        | (rw [if_neg q5]; done)
    exact t19
  · refine J_iconst (v := 0) hT dX6_servicesUnder_8 rfl ?_
    refine J_goto (tgt := 19) hT dX6_servicesUnder_9 (by decide) ?_
    refine J_topil (y := ctlM (S 82 s)) ?_ ?_
    · rw [← ctlM_if hk.1]
      first
        | (rw [if_pos q5]; done)
        | (rw [if_neg q5]; done)
    exact t19


