/-- depths are what they are to be -/
def DX (S : zS2) : Prop := ∀ k, k < 12 → (∃ d, d ≤ 11 ∧ S 79 k = nI d) ∧ S 79 k = dpI S k 12
theorem DX.mv {S S' : zS2} (h : DX S) (e1 : ∀ j, S' 76 j = S 76 j) (e2 : ∀ j, S' 79 j = S 79 j) : DX S' := fun k hk => by
  rw [e2 k]
  refine ⟨(h k hk).1, (h k hk).2.trans (dpI_eq 12 (fun j _ => by rw [e1]) (fun j _ _ => e2 j)).symm⟩
def dn (S : zS2) (k : Nat) : Nat := (S 79 k).toNatClampNeg
theorem DX.nd {S : zS2} (h : DX S) {k : Nat} (hk : k < 12) : dn S k ≤ 11 ∧ S 79 k = nI (dn S k) := by
  obtain ⟨d, h1, h2⟩ := (h k hk).1
  have : dn S k = d := by unfold dn; rw [h2]; exact nI_clamp (by omega)
  rw [this]
  exact ⟨h1, h2⟩
theorem dpI_lub {S : zS2} {k d : Nat} (hd : d < 1000) : ∀ n, (∀ j, j < n → bt (S 76 k) j = true → ∃ e, S 79 j = nI e ∧ e < d) → dpI S k n ≤ nI d := by
  intro n
  induction n with
  | zero => intro _; exact nI_le (a := 0) (b := d) (Nat.zero_le _) (by omega)
  | succ n ih =>
    intro h
    rw [dpI]
    split
    · rename_i q
      obtain ⟨e, h1, h2⟩ := h n (by omega) q.1
      rw [h1, nI_1 e]
      exact nI_le (by omega) (by omega)
    · exact ih (fun j hj => h j (by omega))
theorem DX.lt {S : zS2} (h : DX S) {k j : Nat} (hk : k < 12) (hj : j < 12) (hb : bt (S 76 k) j = true) : dn S j < dn S k := by
  have h1 := dpI_ge S k (n := 12) hj hb
  obtain ⟨a1, a2⟩ := h.nd hk
  obtain ⟨b1, b2⟩ := h.nd hj
  rw [← (h k hk).2, a2, b2, nI_1] at h1
  apply Classical.byContradiction
  intro q
  exact absurd (nI_lt (a := dn S k) (b := dn S j + 1) (by omega) (by omega)) (Int32.not_lt.mpr h1)
theorem DX.le {S : zS2} (h : DX S) {k d : Nat} (hk : k < 12) (hd : d < 1000) (hr : ∀ j, j < 12 → bt (S 76 k) j = true → dn S j < d) : dn S k ≤ d := by
  have h1 := dpI_lub (S := S) (k := k) hd 12 (fun j hj hb => ⟨dn S j, (h.nd hj).2, hr j hj hb⟩)
  obtain ⟨a1, a2⟩ := h.nd hk
  rw [← (h k hk).2, a2] at h1
  apply Classical.byContradiction
  intro q
  exact absurd (nI_lt (a := d) (b := dn S k) (by omega) (by omega)) (Int32.not_lt.mpr h1)
theorem DX.ok {S : zS2} (h : DX S) : DepthOK S := fun k j hk hj hb => by
  have := h.lt hk hj hb
  rw [(h.nd hk).2, (h.nd hj).2]
  exact nI_lt this (by have := (h.nd hk).1; omega)
theorem cnt_ins {p p' : Nat → Bool} {c : Nat} (hp : ∀ x, p' x = (p x || decide (x = c))) (hc : p c = false) : ∀ n, (List.range n).countP p' = (List.range n).countP p + (if c < n then 1 else 0) := by
  intro n
  induction n with
  | zero => rfl
  | succ n ih =>
    rw [List.range_succ, List.countP_append, List.countP_append, ih]
    simp only [List.countP_singleton, hp n]
    by_cases e : n = c
    · subst e
      simp [hc]
    · have e2 : (c < n + 1) = (c < n) := by apply propext; constructor <;> omega
      simp only [e, decide_false, Bool.or_false, e2]
      omega
/-- the order so far: the cells of P, by depth and number -/
def zOP (t : Nat) (π : zP2) (S : zS2) (P : Nat → Bool) (n : Nat) : Prop := n = (List.range 12).countP P ∧ ∃ ρ : Nat → Nat, (∀ i, i < n → ρ i < 12 ∧ P (ρ i) = true ∧ π (t + 4) i = some (t + 8 + ρ i)) ∧ (∀ c, c < 12 → P c = true → ∃ i, i < n ∧ ρ i = c) ∧ ∀ i j, i < j → j < n → kls S (ρ i) (ρ j)
theorem zOP.ins {t : Nat} {π : zP2} {S : zS2} {P P' : Nat → Bool} {n c : Nat} (h : zOP t π S P n) (hc : c < 12) (h0 : P c = false) (hP : ∀ x, P' x = (P x || decide (x = c))) (hl : ∀ x, x < 12 → P x = true → kls S x c) : n < 12 ∧ zOP t (zup π (t + 4) n (some (t + 8 + c))) S P' (n + 1) := by
  obtain ⟨hn, ρ, h1, h2, h3⟩ := h
  have h12 : n < 12 := by
    have e : (List.range 12).countP (fun _ => true) = 12 := rfl
    rw [hn, ← e]
    exact countP_lt (fun _ _ _ => rfl) (List.mem_range.mpr hc) rfl h0
  refine ⟨h12, ?_, fun i => if i = n then c else ρ i, fun i hi => ?_, fun d hd hPd => ?_, fun i j hij hj => ?_⟩
  · rw [cnt_ins hP h0 12, if_pos hc, hn]
  · by_cases e : i = n
    · subst e
      simp only [if_true]
      exact ⟨hc, by rw [hP]; simp, zup_eq _ _ _ _⟩
    · simp only [if_neg e]
      obtain ⟨a, b, d⟩ := h1 i (by omega)
      exact ⟨a, by rw [hP, b]; rfl, by rw [zup_n _ _ _ _ (by omega)]; exact d⟩
  · rw [hP, Bool.or_eq_true] at hPd
    rcases hPd with q | q
    · obtain ⟨i, hi, e⟩ := h2 d hd q
      exact ⟨i, by omega, by simp only [if_neg (show ¬ i = n by omega)]; exact e⟩
    · exact ⟨n, by omega, by simp only [if_true]; exact (of_decide_eq_true q).symm⟩
  · by_cases e : j = n
    · subst e
      simp only [if_true, if_neg (show ¬ i = j by omega)]
      exact hl _ (h1 i hij).1 (h1 i hij).2.1
    · simp only [if_neg e, if_neg (show ¬ i = n by omega)]
      exact h3 i j hij (by omega)
theorem zOP.cg {t n : Nat} {π : zP2} {S : zS2} {P P' : Nat → Bool} (h : zOP t π S P n) (e : ∀ c, c < 12 → P' c = P c) : zOP t π S P' n := by
  obtain ⟨hn, ρ, h1, h2, h3⟩ := h
  refine ⟨hn.trans (List.countP_congr (fun x hx => by rw [e x (List.mem_range.mp hx)])), ρ, fun i hi => ?_, fun c hc hp => h2 c hc (by rw [← e c hc]; exact hp), h3⟩
  obtain ⟨a, b, d⟩ := h1 i hi
  exact ⟨a, by rw [e _ a]; exact b, d⟩
theorem zOP.or {t n : Nat} {π : zP2} {S : zS2} {P : Nat → Bool} (h : zOP t π S P n) (hP : ∀ c, c < 12 → P c = true) : zOr t π S := by
  obtain ⟨hn, ρ, h1, h2, h3⟩ := h
  have e : n = 12 := by
    rw [hn]
    have e : (List.range 12).countP (fun _ => true) = 12 := rfl
    rw [← e]
    exact List.countP_congr (fun x hx => by rw [hP x (List.mem_range.mp hx)])
  subst e
  exact ⟨ρ, fun i hi => ⟨(h1 i hi).1, (h1 i hi).2.2⟩, fun c hc => h2 c hc (hP c hc), h3⟩
/-- depths written, the order written: what stays -/
def zAr (t : Nat) (σ σ1 : zS2) (π π1 : zP2) : Prop := (∀ b j, ¬ (t + 8 ≤ b ∧ b < t + 20 ∧ j = 3) → σ1 b j = σ b j) ∧ ∀ b j, b ≠ t + 4 → π1 b j = π b j
theorem mi.depw {t : Nat} (ht : ta t) {μ : zMem} {σ σ1 : zS2} {π π1 : zP2} {S S' : zS2} (h : mi t μ σ π S) (ha : zAr t σ σ1 π π1) (hS : ∀ b, b ≠ 79 → ∀ j, S' b j = S b j) (hd : ∀ c, c < 12 → σ1 (t + 8 + c) 3 = S' 79 c) : mi t μ σ1 π1 S' := by
  obtain ⟨h1, h2⟩ := ha
  refine ⟨h.1.mv zgr.rf (fun b j _ _ q => h2 b j (fun e => q (Or.inl e))), ⟨fun i hi => ?_, fun i hi => ?_⟩, fun x hx k hk => ?_, fun i hi => ?_, ?_, ?_, fun s h5 hs => ?_, fun c hc => ?_⟩
  · rw [h1 _ _ (by omega)]; exact h.nc hi
  · rw [h1 _ _ (by omega)]; exact h.ns hi
  · by_cases e : x = (8, 3, 12, 79)
    · subst e; exact hd k hk
    · obtain ⟨f1, f2, f3, f4, f5, f6⟩ := lks_f x hx
      have q := (by decide : ∀ x, x ∈ lks → x = (8, 3, 12, 79) ∨ (x.2.2.2 ≠ 79 ∧ (x.2.1 ≠ 3 ∨ 20 ≤ x.1))) x hx
      rcases q with q | ⟨q1, q2⟩
      · exact absurd q e
      · rw [h1 _ _ (by omega), hS _ q1]; exact h.2.2.1 x hx k hk
  · rw [h1 _ _ (by unfold ta at ht; omega), hS 89 (by decide)]; exact h.d i hi
  · rw [h1 _ _ (by omega), hS 67 (by decide)]; exact h.w
  · rw [h1 _ _ (by omega), hS 67 (by decide)]; exact h.wk
  · rw [hS 92 (by decide)] at hs
    rw [h1 _ _ (by omega), h1 _ _ (by omega), hS 93 (by decide), hS 94 (by decide)]; exact h.st s h5 hs
  · obtain ⟨f, e, hF⟩ := h.fm hc
    refine ⟨f, by rw [h2 _ _ (by omega)]; exact e, ?_⟩
    have en : cdn S' c = cdn S c := by unfold cdn; rw [hS 75 (by decide)]
    rw [en]
    exact hF.mv zgr.rf (fun b hb _ j => h1 b j (by have := im_out ht hb; omega)) (fun b hb _ j => h2 b j (by have := im_out ht hb; omega)) (fun k _ => by unfold cdw; rw [hS 74 (by decide)]) (hS 76 (by decide) c) (hS 77 (by decide) c) (hS 78 (by decide) c)
def pdl (S : zS2) (d i : Nat) (c : Nat) : Bool := decide (dn S c < d) || (decide (dn S c = d) && decide (c < i))
def zAI (t : Nat) (σ : zS2) (π : zP2) (S' : zS2) (d i n : Nat) (σ1 : zS2) (π1 : zP2) : Prop := zAr t σ σ1 π π1 ∧ zOP t π1 S' (pdl S' d i) n ∧ ∀ c, c < 12 → pdl S' d i c = true → σ1 (t + 8 + c) 3 = S' 79 c

set_option maxRecDepth 100000 in
set_option maxHeartbeats 4000000 in
theorem c_X6_arrange {l : Launch} {Z : zZ} (hZ : zSt l Z) {μ : zMem} {σ : zS2} {π : zP2} {g : zG2} {t : Nat} (ht : ta t) {S S' : zS2} (hM : mi t μ σ π S) (hS79 : ∀ b, b ≠ 79 → ∀ j, S' b j = S b j) (hX : DX S') : zCt l Z mX6_arrange 1 0 0 [.ref t] (zA4 μ σ π g) (fun r μ' => r = none ∧ zE0 t μ σ π g S' μ') := by
  refine zCt_of hZ mpX6_arrange (Nat.le_of_ble_eq_true rfl) (L := [some (.ref t), none, none, none, none, none, none, none, none, none]) rfl (fun τ hY => ?_)
  have hT := hY.1
  have hB := hM.tb
  have loop : ∀ n i, i + n = 12 → ∀ σ1 π1 pl n, zAI t σ π S' i 0 n σ1 π1 → (∀ c, c < 32 → bt pl c = (decide (12 ≤ c) || decide (dn S' c < i))) → zJ τ (zFn τ (fun r μ' => r = none ∧ zE0 t μ σ π g S' μ') 0 0) 8 [some (.ref t), some (.int pl), some (.int (nI n)), some (.int (nI i)), none, none, none, none, none, none] [] (zA4 μ σ1 π1 g) 0 0 := by
    intro n
    induction n with
    | zero =>
      intro i hi
      have : i = 12 := by omega
      subst this
      intro σ1 π1 pl n hI hpl
      have hall : ∀ c, c < 12 → pdl S' 12 0 c = true := fun c hc => by
        have := (hX.nd hc).1
        simp [pdl, show dn S' c < 12 by omega]
      refine J_iload_n (i := 3) hT dX6_arrange_8 rfl rfl ?_
      refine J_bipush (v := 12) hT dX6_arrange_9 rfl ?_
      refine J_icmp_ge (tgt := 149) hT dX6_arrange_11 (by decide) (fun _ => ?_) (fun q => absurd (nI_le (a := 12) (b := 12) (by decide) (by decide)) q)
      exact J_vret hT dX6_arrange_149 rfl (⟨rfl, σ1, π1, rfl, ⟨mi.depw ht hM hI.1 hS79 (fun c hc => hI.2.2 c hc (hall c hc)), hI.2.1.or hall⟩, fun b j q => hI.1.1 b j (fun e => q (Or.inr (Or.inr (by omega)))), fun b j q => hI.1.2 b j (fun e => q (Or.inl e))⟩) (Nat.le_refl _) (Nat.le_refl _)
    | succ n ih =>
      intro i hi
      intro σ1 π1 pl n hI hpl
      by_cases h1 : pl = -1
      · have hall : ∀ c, c < 12 → pdl S' i 0 c = true := fun c hc => by
          have h2 := hpl c (by omega)
          rw [h1, b_m1 c (by omega)] at h2
          have h3 : dn S' c < i := by
            simp only [show ¬ 12 ≤ c by omega, decide_false, Bool.false_or] at h2
            exact of_decide_eq_true h2.symm
          simp [pdl, h3]
        refine J_iload_n (i := 3) hT dX6_arrange_8 rfl rfl ?_
        refine J_bipush (v := 12) hT dX6_arrange_9 rfl ?_
        refine J_icmp_ge (tgt := 149) hT dX6_arrange_11 (by decide) (fun q => absurd q (Int32.not_le.mpr (nI_lt (a := i) (b := 12) (by omega) (by decide)))) (fun _ => ?_)
        refine J_iload_n (i := 1) hT dX6_arrange_14 rfl rfl ?_
        refine J_iconst (v := -1) hT dX6_arrange_15 rfl ?_
        refine J_icmp_eq (tgt := 149) hT dX6_arrange_16 (by decide) (fun _ => ?_) (fun q => absurd (h1) q)
        exact J_vret hT dX6_arrange_149 rfl (⟨rfl, σ1, π1, rfl, ⟨mi.depw ht hM hI.1 hS79 (fun c hc => hI.2.2 c hc (hall c hc)), hI.2.1.or hall⟩, fun b j q => hI.1.1 b j (fun e => q (Or.inr (Or.inr (by omega)))), fun b j q => hI.1.2 b j (fun e => q (Or.inl e))⟩) (Nat.le_refl _) (Nat.le_refl _)
      · have inner : ∀ n2 k, k + n2 = 12 → ∀ σ1 π1 fd n, zAI t σ π S' i k n σ1 π1 → (∀ c, c < 32 → bt fd c = (decide (c < 12) && (decide (dn S' c = i) && decide (c < k)))) → zJ τ (zFn τ (fun r μ' => r = none ∧ zE0 t μ σ π g S' μ') 0 0) 36 [some (.ref t), some (.int pl), some (.int (nI n)), some (.int (nI i)), some (.int fd), some (.ref (t + 3)), some (.int (nI 12)), some (.int (nI k)), none, none] [] (zA4 μ σ1 π1 g) 0 0 := by
          intro n2
          induction n2 with
          | zero =>
            intro k hk
            have : k = 12 := by omega
            subst this
            intro σ1 π1 fd n hI hfd
            refine J_iload (i := 7) hT dX6_arrange_36 rfl ?_
            refine J_iload (i := 6) hT dX6_arrange_38 rfl ?_
            refine J_icmp_ge (tgt := 138) hT dX6_arrange_40 (by decide) (fun _ => ?_) (fun q => absurd (nI_le (a := 12) (b := 12) (by decide) (by decide)) q)
            refine J_iload_n (i := 1) hT dX6_arrange_138 rfl rfl ?_
            refine J_iload (i := 4) hT dX6_arrange_139 rfl ?_
            refine J_ior hT dX6_arrange_141 ?_
            refine S_istore1 hT dX6_arrange_142 rfl rfl ?_
            refine S_iinc3 hT dX6_arrange_143 (nI_inc _) rfl ?_
            refine J_goto (tgt := 8) hT dX6_arrange_146 (by decide) ?_
            refine J_L (L' := [_, _, _, _, none, none, none, none, none, none]) (zsub_keep (zsub_keep (zsub_keep (zsub_keep (zsub_drop (zsub_drop (zsub_drop (zsub_drop (zsub_drop (zsub_drop zsub_nil)))))))))) ?_
            refine ih (i + 1) (by omega) σ1 π1 _ n ⟨hI.1, hI.2.1.cg (fun c hc => ?_), fun c hc hp => hI.2.2 c hc ?_⟩ (fun c hc => ?_)
            · unfold pdl
              by_cases e : dn S' c = i
              · simp [e, hc]
              · have : (dn S' c < i + 1) = (dn S' c < i) := by apply propext; constructor <;> omega
                simp [e, this]
            · rw [← hp]
              unfold pdl
              by_cases e : dn S' c = i
              · simp [e, hc]
              · have : (dn S' c < i + 1) = (dn S' c < i) := by apply propext; constructor <;> omega
                simp [e, this]
            · rw [b_or, hpl c hc, hfd c hc]
              by_cases h12 : 12 ≤ c
              · simp [h12]
              · by_cases e : dn S' c = i
                · simp [e, show c < 12 by omega]
                · have : (dn S' c < i + 1) = (dn S' c < i) := by apply propext; constructor <;> omega
                  simp [e, this, show c < 12 by omega]
          | succ n2 ih2 =>
            intro k hk
            intro σ1 π1 fd n hI hfd
            have hk12 : k < 12 := by omega
            have hB1 : zTb t μ π1 := hB.mv zgr.rf (fun b j _ _ q => hI.1.2 b j (fun e => q (Or.inl e)))
            obtain ⟨f, hf, hF⟩ := hM.fm hk12
            have hf1 : π1 (t + 8 + k) 1 = some f := by rw [hI.1.2 _ _ (by omega)]; exact hf
            have hfo := im_out ht hF.1
            have hnum : σ1 (t + 8 + k) 0 = nI k := by rw [hI.1.1 _ _ (by omega)]; exact hM.nc hk12
            have hrd : σ1 f 1 = σ f 1 := hI.1.1 _ _ (by omega)
            have hplk : bt pl k = decide (dn S' k < i) := by rw [hpl k (by omega)]; simp [show ¬ 12 ≤ k by omega]
            have hturn : (σ f 1 &&& (pl ^^^ (-1)) = 0) ↔ ∀ j, j < 12 → bt (S' 76 k) j = true → dn S' j < i := by
              constructor
              · intro e j hj hb
                have h3 := congrArg (fun z => bt z j) e
                simp only [b_and, b_not _ (show j < 32 by omega), b_0] at h3
                rw [hM.b76 hk12 hf hj, ← hS79 76 (by decide), hb, hpl j (by omega)] at h3
                simpa [show ¬ 12 ≤ j by omega] using h3
              · intro h
                apply b_ext
                intro j hj
                rw [b_and, b_not _ hj, b_0, hpl j hj]
                by_cases h12 : 12 ≤ j
                · simp [h12]
                · rw [hM.b76 hk12 hf (by omega), ← hS79 76 (by decide)]
                  cases hb : bt (S' 76 k) j with
                  | false => rfl
                  | true => simp [h j (by omega) hb]
            have hp1 : dn S' k ≠ i → ∀ c, c < 12 → pdl S' i (k + 1) c = pdl S' i k c := fun hne c hc => by
              unfold pdl
              by_cases e : c = k
              · subst e; simp [hne]
              · have : (c < k + 1) = (c < k) := by apply propext; constructor <;> omega
                simp only [this]
            have hfd1 : dn S' k ≠ i → ∀ c, c < 32 → bt fd c = (decide (c < 12) && (decide (dn S' c = i) && decide (c < k + 1))) := fun hne c hc => by
              rw [hfd c hc]
              by_cases e : c = k
              · subst e; simp [hne]
              · have : (c < k + 1) = (c < k) := by apply propext; constructor <;> omega
                simp only [this]
            have skip : dn S' k ≠ i → zJ τ (zFn τ (fun r μ' => r = none ∧ zE0 t μ σ π g S' μ') 0 0) 132 [some (.ref t), some (.int pl), some (.int (nI n)), some (.int (nI i)), some (.int fd), some (.ref (t + 3)), some (.int (nI 12)), some (.int (nI k)), none, none] [] (zA4 μ σ1 π1 g) 0 0 := by
              intro hne
              refine S_iinc7 hT dX6_arrange_132 (nI_inc _) rfl ?_
              refine J_goto (tgt := 36) hT dX6_arrange_135 (by decide) ?_
              exact ih2 (k + 1) (by omega) σ1 π1 fd n ⟨hI.1, hI.2.1.cg (hp1 hne), fun c hc hp => hI.2.2 c hc (by rw [← hp1 hne c hc]; exact hp)⟩ (hfd1 hne)
            have t84 : ∀ b : Bool, (b = true ↔ dn S' k = i) → zJ τ (zFn τ (fun r μ' => r = none ∧ zE0 t μ σ π g S' μ') 0 0) 84 [some (.ref t), some (.int pl), some (.int (nI n)), some (.int (nI i)), some (.int fd), some (.ref (t + 3)), some (.int (nI 12)), some (.int (nI k)), some (.ref (t + 8 + k)), some (.int (zbi b))] [] (zA4 μ σ1 π1 g) 0 0 := by
              intro b hb
              cases b with
              | false =>
                have hne : dn S' k ≠ i := fun q => absurd (hb.mpr q) (by decide)
                refine J_iload (i := 9) hT dX6_arrange_84 rfl ?_
                refine J_if_eq (tgt := 132) hT dX6_arrange_86 (by decide) (fun _ => ?_) (fun q => absurd (rfl) q)
                refine J_L (L' := [_, _, _, _, _, _, _, _, none, none]) (zsub_keep (zsub_keep (zsub_keep (zsub_keep (zsub_keep (zsub_keep (zsub_keep (zsub_keep (zsub_drop (zsub_drop zsub_nil)))))))))) ?_
                exact skip hne
              | true =>
                have heq := hb.mp rfl
                have hP0 : pdl S' i k k = false := by simp [pdl, heq]
                have hPi : ∀ x, pdl S' i (k + 1) x = (pdl S' i k x || decide (x = k)) := fun x => by
                  unfold pdl
                  by_cases e : x = k
                  · subst e; simp [heq]
                  · have : (x < k + 1) = (x < k) := by apply propext; constructor <;> omega
                    simp [this, e]
                have hPl : ∀ x, x < 12 → pdl S' i k x = true → kls S' x k := fun x hx hp => by
                  unfold pdl at hp
                  unfold kls
                  rw [(hX.nd hx).2, (hX.nd hk12).2, heq]
                  rw [Bool.or_eq_true, Bool.and_eq_true, decide_eq_true_eq, decide_eq_true_eq, decide_eq_true_eq] at hp
                  rcases hp with q | ⟨q1, q2⟩
                  · exact Or.inl (nI_lt q (by omega))
                  · exact Or.inr ⟨by rw [q1], q2⟩
                obtain ⟨hn12, hins⟩ := hI.2.1.ins hk12 hP0 hPi hPl
                refine J_iload (i := 9) hT dX6_arrange_84 rfl ?_
                refine J_if_eq (tgt := 132) hT dX6_arrange_86 (by decide) (fun q => absurd q ((by decide))) (fun _ => ?_)
                refine J_iload_n (i := 2) hT dX6_arrange_89 rfl rfl ?_
                refine J_if_lt (tgt := 132) hT dX6_arrange_90 (by decide) (fun q => absurd q (nI_pos (by omega))) (fun _ => ?_)
                refine J_iload_n (i := 2) hT dX6_arrange_93 rfl rfl ?_
                refine J_aload_n (i := 0) hT dX6_arrange_94 rfl rfl ?_
                refine R_getP hT fX6_26 rfl dX6_arrange_95 hB1.k hB1.p2 ?_
                refine R_alen hT dX6_arrange_98 (by rw [hB1.k4]; decide) hB1.l4 ?_
                refine J_icmp_ge (tgt := 132) hT dX6_arrange_99 (by decide) (fun q => absurd q (Int32.not_le.mpr (nI_lt (a := n) (b := 12) hn12 (by decide)))) (fun _ => ?_)
                refine J_aload_n (i := 0) hT dX6_arrange_102 rfl rfl ?_
                refine R_getP hT fX6_26 rfl dX6_arrange_103 hB1.k hB1.p2 ?_
                refine J_iload_n (i := 2) hT dX6_arrange_106 rfl rfl ?_
                refine J_aload (i := 8) hT dX6_arrange_107 rfl ?_
                refine R_aast hT dX6_arrange_109 hB1.k4 (by decide) (hB1.kc hk12) hB1.l4 (by first | exact ⟨rfl, by decide⟩ | exact zix_nI (by omega) (by decide) | assumption) ?_
                refine S_iinc2 hT dX6_arrange_110 (nI_inc _) rfl ?_
                refine J_aload (i := 8) hT dX6_arrange_113 rfl ?_
                refine J_iload_n (i := 3) hT dX6_arrange_115 rfl rfl ?_
                refine R_putI hT fX6_246 rfl rfl dX6_arrange_116 (hB1.kc hk12) ?_
                refine J_iload (i := 4) hT dX6_arrange_119 rfl ?_
                refine J_aload (i := 8) hT dX6_arrange_121 rfl ?_
                refine R_getI hT fX6_130 rfl dX6_arrange_123 (hB1.kc hk12) ?_
                refine J_topil ((zu_n _ _ _ _ (by omega)).trans hnum) ?_
                refine R_callS1 hY dX6_arrange_126 mfX8_bit mtX8_bit kX6_83 (c_X8_bit hZ) rfl (by decide) rfl rfl (Nat.le_of_ble_eq_true rfl) (Nat.le_refl _) (Nat.le_refl _) ?_
                refine J_ior hT dX6_arrange_129 ?_
                refine S_istore4 hT dX6_arrange_130 rfl ?_
                refine S_iinc7 hT dX6_arrange_132 (nI_inc _) rfl ?_
                refine J_goto (tgt := 36) hT dX6_arrange_135 (by decide) ?_
                refine J_L (L' := [_, _, _, _, _, _, _, _, none, none]) (zsub_keep (zsub_keep (zsub_keep (zsub_keep (zsub_keep (zsub_keep (zsub_keep (zsub_keep (zsub_drop (zsub_drop zsub_nil)))))))))) ?_
                refine ih2 (k + 1) (by omega) _ _ _ _ ⟨⟨fun b j q => ?_, fun b j q => ?_⟩, hins, fun c hc hp => ?_⟩ (fun c hc => ?_)
                · rw [zu_n _ _ _ _ (by omega)]; exact hI.1.1 b j q
                · rw [zup_n _ _ _ _ (fun e => q e.1)]; exact hI.1.2 b j q
                · by_cases e : c = k
                  · subst e; rw [zu_eq, (hX.nd hk12).2, heq]
                  · rw [zu_n _ _ _ _ (by omega)]
                    refine hI.2.2 c hc ?_
                    rw [hPi] at hp
                    simpa [e] using hp
                · rw [b_or, b_one k (by omega) hc, hfd c hc]
                  by_cases e : c = k
                  · subst e; simp [heq, hk12]
                  · have : (c < k + 1) = (c < k) := by apply propext; constructor <;> omega
                    simp [e, this]
            refine J_iload (i := 7) hT dX6_arrange_36 rfl ?_
            refine J_iload (i := 6) hT dX6_arrange_38 rfl ?_
            refine J_icmp_ge (tgt := 138) hT dX6_arrange_40 (by decide) (fun q => absurd q (Int32.not_le.mpr (nI_lt (a := k) (b := 12) (by omega) (by decide)))) (fun _ => ?_)
            refine J_aload (i := 5) hT dX6_arrange_43 rfl ?_
            refine J_iload (i := 7) hT dX6_arrange_45 rfl ?_
            refine R_aald1 hT dX6_arrange_47 hB1.k3 (by decide) hB1.l3 (by first | exact ⟨rfl, by decide⟩ | exact zix_nI (by omega) (by decide) | assumption) (hB1.pc hk12) ?_
            refine S_astore8 hT dX6_arrange_48 rfl ?_
            refine J_iload_n (i := 1) hT dX6_arrange_50 rfl rfl ?_
            refine J_aload (i := 8) hT dX6_arrange_51 rfl ?_
            refine R_getI hT fX6_130 rfl dX6_arrange_53 (hB1.kc hk12) ?_
            refine J_topil (hnum) ?_
            refine R_callS1 hY dX6_arrange_56 mfX8_has mtX8_has kX6_184 (c_X8_has hZ (by omega)) rfl (by decide) rfl rfl (Nat.le_of_ble_eq_true rfl) (Nat.le_refl _) (Nat.le_refl _) ?_
            refine J_if_ne (tgt := 81) hT dX6_arrange_59 (by decide) (fun q59 => ?_) (fun q59 => ?_)
            · refine J_iconst (v := 0) hT dX6_arrange_81 rfl ?_
              refine S_istore9 hT dX6_arrange_82 rfl ?_
              first
                | exact t84 true (iff_of_true rfl (by
                    have a := hX.le hk12 (by omega) (hturn.mp q74)
                    have b := zbi_0.mp q59
                    rw [hplk] at b
                    have := of_decide_eq_false b
                    omega))
                | exact t84 false (iff_of_false (by decide) (fun q => by
                    have b := zbi_ne.mp q59
                    rw [hplk] at b
                    have := of_decide_eq_true b
                    omega))
                | exact t84 false (iff_of_false (by decide) (fun q => q74 (hturn.mpr (fun j hj hb => by rw [← q]; exact hX.lt hk12 hj hb))))
            · refine J_aload (i := 8) hT dX6_arrange_62 rfl ?_
              refine R_getP hT fX6_62 rfl dX6_arrange_64 (hB1.kc hk12) hf1 ?_
              refine R_getI hT fX6_196 rfl dX6_arrange_67 hF.2.2.1 ?_
              refine J_topil (hrd) ?_
              refine J_iload_n (i := 1) hT dX6_arrange_70 rfl rfl ?_
              refine J_iconst (v := -1) hT dX6_arrange_71 rfl ?_
              refine J_ixor hT dX6_arrange_72 ?_
              refine J_iand hT dX6_arrange_73 ?_
              refine J_if_ne (tgt := 81) hT dX6_arrange_74 (by decide) (fun q74 => ?_) (fun q74 => ?_)
              · refine J_iconst (v := 0) hT dX6_arrange_81 rfl ?_
                refine S_istore9 hT dX6_arrange_82 rfl ?_
                first
                  | exact t84 true (iff_of_true rfl (by
                      have a := hX.le hk12 (by omega) (hturn.mp q74)
                      have b := zbi_0.mp q59
                      rw [hplk] at b
                      have := of_decide_eq_false b
                      omega))
                  | exact t84 false (iff_of_false (by decide) (fun q => by
                      have b := zbi_ne.mp q59
                      rw [hplk] at b
                      have := of_decide_eq_true b
                      omega))
                  | exact t84 false (iff_of_false (by decide) (fun q => q74 (hturn.mpr (fun j hj hb => by rw [← q]; exact hX.lt hk12 hj hb))))
              · refine J_iconst (v := 1) hT dX6_arrange_77 rfl ?_
                refine J_goto (tgt := 82) hT dX6_arrange_78 (by decide) ?_
                refine S_istore9 hT dX6_arrange_82 rfl ?_
                first
                  | exact t84 true (iff_of_true rfl (by
                      have a := hX.le hk12 (by omega) (hturn.mp q74)
                      have b := zbi_0.mp q59
                      rw [hplk] at b
                      have := of_decide_eq_false b
                      omega))
                  | exact t84 false (iff_of_false (by decide) (fun q => by
                      have b := zbi_ne.mp q59
                      rw [hplk] at b
                      have := of_decide_eq_true b
                      omega))
                  | exact t84 false (iff_of_false (by decide) (fun q => q74 (hturn.mpr (fun j hj hb => by rw [← q]; exact hX.lt hk12 hj hb))))
        refine J_iload_n (i := 3) hT dX6_arrange_8 rfl rfl ?_
        refine J_bipush (v := 12) hT dX6_arrange_9 rfl ?_
        refine J_icmp_ge (tgt := 149) hT dX6_arrange_11 (by decide) (fun q => absurd q (Int32.not_le.mpr (nI_lt (a := i) (b := 12) (by omega) (by decide)))) (fun _ => ?_)
        refine J_iload_n (i := 1) hT dX6_arrange_14 rfl rfl ?_
        refine J_iconst (v := -1) hT dX6_arrange_15 rfl ?_
        refine J_icmp_eq (tgt := 149) hT dX6_arrange_16 (by decide) (fun q => absurd q (h1)) (fun _ => ?_)
        refine J_iconst (v := 0) hT dX6_arrange_19 rfl ?_
        refine S_istore4 hT dX6_arrange_20 rfl ?_
        refine J_aload_n (i := 0) hT dX6_arrange_22 rfl rfl ?_
        refine R_getP hT fX6_22 rfl dX6_arrange_23 hB.k (hB.mv zgr.rf (fun b j _ _ q => hI.1.2 b j (fun e => q (Or.inl e)))).p1 ?_
        refine S_astore5 hT dX6_arrange_26 rfl ?_
        refine J_aload (i := 5) hT dX6_arrange_28 rfl ?_
        refine R_alen hT dX6_arrange_30 (by rw [hB.k3]; decide) hB.l3 ?_
        refine S_istore6 hT dX6_arrange_31 rfl ?_
        refine J_iconst (v := 0) hT dX6_arrange_33 rfl ?_
        refine S_istore7 hT dX6_arrange_34 rfl ?_
        exact inner 12 0 rfl σ1 π1 0 n hI (fun c hc => by rw [b_0]; simp)
  refine J_sipush (v := -4096) hT dX6_arrange_0 rfl ?_
  refine S_istore1 hT dX6_arrange_3 rfl rfl ?_
  refine J_iconst (v := 0) hT dX6_arrange_4 rfl ?_
  refine S_istore2 hT dX6_arrange_5 rfl rfl ?_
  refine J_iconst (v := 0) hT dX6_arrange_6 rfl ?_
  refine S_istore3 hT dX6_arrange_7 rfl rfl ?_
  exact loop 12 0 rfl σ π _ 0 ⟨⟨fun _ _ _ => rfl, fun _ _ _ => rfl⟩, ⟨(List.countP_eq_zero.mpr (fun x _ => by simp [pdl])).symm, fun _ => 0, fun i hi => absurd hi (by omega), fun c hc hp => by simp [pdl] at hp, fun i j _ hj => absurd hj (by omega)⟩, fun c hc hp => by simp [pdl] at hp⟩ (by
    have : ∀ c, c < 32 → bt (-4096) c = decide (12 ≤ c) := by decide +kernel
    intro c hc
    rw [this c hc]; simp)


