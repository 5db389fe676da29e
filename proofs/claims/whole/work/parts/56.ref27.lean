
theorem rnF_r {σ : Nat → Nat → Int32} {L f p p' : Nat} {w w' : Bool} {ks op ks' op' : List Nat} {fr fr' : List (Bool × Nat × Nat)} (hp : p < L) (h : stF σ L w p ks op fr = .inr (w', p', ks', op', fr')) : rnF σ L (f + 1) w p ks op fr = rnF σ L f w' p' ks' op' fr' := by
  rw [rnF, if_pos hp, h]
theorem rnF_l {σ : Nat → Nat → Int32} {L f p q : Nat} {w : Bool} {ks op : List Nat} {fr : List (Bool × Nat × Nat)} (hp : p < L) (h : stF σ L w p ks op fr = .inl q) : rnF σ L (f + 1) w p ks op fr = .inl q := by
  rw [rnF, if_pos hp, h]
theorem rnF_e {σ : Nat → Nat → Int32} {L f p : Nat} {w : Bool} {ks op : List Nat} {fr : List (Bool × Nat × Nat)} (hp : ¬ p < L) : rnF σ L (f + 1) w p ks op fr = .inr (w, p, ks, op, fr) := by
  rw [rnF, if_neg hp]
def fltI (R : Nat ⊕ zPS) (L : Nat) : Int32 := match R with
  | .inl q => nI q
  | .inr s => if s.1 = true ∨ s.2.2.2.2.length ≠ 1 then nI L else -1
theorem fltI_1 (p : Nat) (ks op : List Nat) (fr : List (Bool × Nat × Nat)) (L : Nat) : fltI (.inr (true, p, ks, op, fr)) L = nI L := by simp [fltI]
theorem fltI_2 (w : Bool) (p : Nat) (ks op : List Nat) (fr : List (Bool × Nat × Nat)) (L : Nat) (h : fr.length ≠ 1) : fltI (.inr (w, p, ks, op, fr)) L = nI L := by simp [fltI, h]
theorem fltI_3 (p : Nat) (ks op : List Nat) (fr : List (Bool × Nat × Nat)) (L : Nat) (h : fr.length = 1) : fltI (.inr (false, p, ks, op, fr)) L = -1 := by simp [fltI, h]
/-- the reference's reading of the text, to its end -/
def rdF (σ : Nat → Nat → Int32) (L : Nat) : Nat ⊕ zPS := rnF σ L 31 true 0 [] [] [(false, 40, 1)]
def rdK (R : Nat ⊕ zPS) : List Nat × List Nat := match R with
  | .inl _ => ([], [])
  | .inr s => clsF 0 s.2.2.1 s.2.2.2.1

theorem stF_le {σ : Nat → Nat → Int32} {L p q : Nat} {w : Bool} {ks op : List Nat} {fr : List (Bool × Nat × Nat)} (hp : p < L) (hL : L ≤ 30) (h : stF σ L w p ks op fr = .inl q) : q ≤ 30 := by
  unfold stF at h
  repeat' split at h
  all_goals first
    | (cases h; done)
    | (injection h with h; omega)
    | (injection h with h; split at h <;> omega)

set_option maxRecDepth 100000 in
set_option maxHeartbeats 4000000 in
theorem c_X9_faultOf {l : Launch} {Z : zZ} (hZ : zSt l Z) {μ : zMem} {σ : Nat → Nat → Int32} {π : Nat → Nat → Option Nat} {g : Nat → Nat → Int64} (hS : zRef μ π) {L : Nat} (hL : σ 67 1 = nI L) (hL30 : L ≤ 30) {R : Nat ⊕ zPS} (hR0 : R = rdF σ L) : zCt l Z mX9_faultOf 2 0 0 [.ref 67] (zA4 μ σ π g) (fun r μ' => r = some (.int (fltI R L)) ∧ ∃ σ', μ' = zA4 μ σ' π g ∧ zpf σ σ' ∧ (fltI R L = -1 → PM σ' (rdK R).1 (rdK R).2)) := by
  refine zCt_of hZ mpX9_faultOf (Nat.le_of_ble_eq_true rfl) (L := [some (.ref 67), none, none, none, none, none]) rfl (fun τ hY => ?_)
  have hT := hY.1
  have nL : ∀ q, q ≤ 30 → nI q ≠ -1 := fun q hq h => by
    have h1 : (0 : Int32) ≤ nI q := nI_le (a := 0) (by omega) (by omega)
    rw [h] at h1
    exact absurd h1 (by decide)
  have fin : ∀ w ks op fr σ1, zpf σ σ1 → PM σ1 ks op → IV L ks op fr → R = .inr (w, L, ks, op, fr) → zJ τ (zFn τ (fun r μ' => r = some (.int (fltI R L)) ∧ ∃ σ', μ' = zA4 μ σ' π g ∧ zpf σ σ' ∧ (fltI R L = -1 → PM σ' (rdK R).1 (rdK R).2)) 0 0) 23 [some (.ref 67), some (.int (nI (fr.length - 1))), some (.int (zbi w)), some (.int (nI L)), none, none] [] (zA4 μ σ1 π g) 0 0 := by
    intro w ks op fr σ1 hz hP hI hR
    have hL1 : σ1 67 1 = nI L := (hz _ _ (by decide) (by decide) (by decide) (by decide) (by decide) (by decide)).trans hL
    have hf1 : 1 ≤ fr.length := by have := hI.2.1; omega
    have hfl := hI.2.2.1
    cases w with
    | true =>
      have e : fltI R L = nI L := by rw [hR]; exact fltI_1 _ _ _ _ _
      refine J_iload_n (i := 3) hT dX9_faultOf_23 rfl rfl ?_
      refine J_aload_n (i := 0) hT dX9_faultOf_24 rfl rfl ?_
      refine R_getI hT fX9_147 rfl dX9_faultOf_25 (rk hS) ?_
      refine J_topil (hL1) ?_
      refine J_icmp_ge (tgt := 486) hT dX9_faultOf_28 (by decide) (fun _ => ?_) (fun q => absurd (nI_le (Nat.le_refl _) (by omega)) q)
      refine J_iload_n (i := 2) hT dX9_faultOf_486 rfl rfl ?_
      refine J_if_ne (tgt := 494) hT dX9_faultOf_487 (by decide) (fun _ => ?_) (fun q => absurd q (by decide))
      refine J_aload_n (i := 0) hT dX9_faultOf_494 rfl rfl ?_
      refine R_getI hT fX9_147 rfl dX9_faultOf_495 (rk hS) ?_
      refine J_topil (hL1) ?_
      exact J_iret hT dX9_faultOf_498 rfl rfl (⟨by rw [e], σ1, rfl, hz, fun h => absurd (e.symm.trans h) (nL L hL30)⟩) (Nat.le_refl _) (Nat.le_refl _)
    | false =>
      by_cases h1 : fr.length = 1
      · have e : fltI R L = -1 := by rw [hR]; exact fltI_3 _ _ _ _ _ h1
        have ek : rdK R = clsF 0 ks op := by rw [hR]; rfl
        have hng : ks.length + ng op ≤ 30 := by have := hI.1; omega
        refine J_iload_n (i := 3) hT dX9_faultOf_23 rfl rfl ?_
        refine J_aload_n (i := 0) hT dX9_faultOf_24 rfl rfl ?_
        refine R_getI hT fX9_147 rfl dX9_faultOf_25 (rk hS) ?_
        refine J_topil (hL1) ?_
        refine J_icmp_ge (tgt := 486) hT dX9_faultOf_28 (by decide) (fun _ => ?_) (fun q => absurd (nI_le (Nat.le_refl _) (by omega)) q)
        refine J_iload_n (i := 2) hT dX9_faultOf_486 rfl rfl ?_
        refine J_if_ne (tgt := 494) hT dX9_faultOf_487 (by decide) (fun q => absurd (rfl) q) (fun _ => ?_)
        refine J_iload_n (i := 1) hT dX9_faultOf_490 rfl rfl ?_
        refine J_if_le (tgt := 499) hT dX9_faultOf_491 (by decide) (fun _ => ?_) (fun q => absurd ((show nI (fr.length - 1) ≤ 0 by rw [h1]; decide)) q)
        refine J_aload_n (i := 0) hT dX9_faultOf_499 rfl rfl ?_
        refine J_iconst (v := 0) hT dX9_faultOf_500 rfl ?_
        refine J_callV (ci := 9) hY dX9_faultOf_501 mfX9_closes miX9_closes msX9_closes kX9_176 ⟨by decide, rfl⟩ (rk hS) (c_X9_closes hZ hS (rr := 0) (by omega) hP hng) rfl (by decide) rfl rfl (Nat.le_of_ble_eq_true rfl) (Nat.le_refl _) (Nat.le_refl _) (fun r1 μ1 hq1 => ?_)
        obtain ⟨rfl, S2, rfl, hc2, hP2⟩ := hq1
        refine J_iconst (v := -1) hT dX9_faultOf_504 rfl ?_
        exact J_iret hT dX9_faultOf_505 rfl rfl (⟨by rw [e], S2, rfl, zpf_trans hz (zpf_c hc2), fun _ => by rw [ek]; exact hP2⟩) (Nat.le_refl _) (Nat.le_refl _)
      · have e : fltI R L = nI L := by rw [hR]; exact fltI_2 _ _ _ _ _ _ h1
        refine J_iload_n (i := 3) hT dX9_faultOf_23 rfl rfl ?_
        refine J_aload_n (i := 0) hT dX9_faultOf_24 rfl rfl ?_
        refine R_getI hT fX9_147 rfl dX9_faultOf_25 (rk hS) ?_
        refine J_topil (hL1) ?_
        refine J_icmp_ge (tgt := 486) hT dX9_faultOf_28 (by decide) (fun _ => ?_) (fun q => absurd (nI_le (Nat.le_refl _) (by omega)) q)
        refine J_iload_n (i := 2) hT dX9_faultOf_486 rfl rfl ?_
        refine J_if_ne (tgt := 494) hT dX9_faultOf_487 (by decide) (fun q => absurd (rfl) q) (fun _ => ?_)
        refine J_iload_n (i := 1) hT dX9_faultOf_490 rfl rfl ?_
        refine J_if_le (tgt := 499) hT dX9_faultOf_491 (by decide) (fun q => absurd q (Int32.not_le.mpr (nI_lt (a := 0) (b := fr.length - 1) (by omega) (by omega)))) (fun _ => ?_)
        refine J_aload_n (i := 0) hT dX9_faultOf_494 rfl rfl ?_
        refine R_getI hT fX9_147 rfl dX9_faultOf_495 (rk hS) ?_
        refine J_topil (hL1) ?_
        exact J_iret hT dX9_faultOf_498 rfl rfl (⟨by rw [e], σ1, rfl, hz, fun h => absurd (e.symm.trans h) (nL L hL30)⟩) (Nat.le_refl _) (Nat.le_refl _)
  have loop : ∀ f w p ks op fr σ1, L ≤ p + f → p ≤ L → zpf σ σ1 → PM σ1 ks op → zFr σ1 fr → IV p ks op fr → R = rnF σ L (f + 1) w p ks op fr → zJ τ (zFn τ (fun r μ' => r = some (.int (fltI R L)) ∧ ∃ σ', μ' = zA4 μ σ' π g ∧ zpf σ σ' ∧ (fltI R L = -1 → PM σ' (rdK R).1 (rdK R).2)) 0 0) 23 [some (.ref 67), some (.int (nI (fr.length - 1))), some (.int (zbi w)), some (.int (nI p)), none, none] [] (zA4 μ σ1 π g) 0 0 := by
    intro f
    induction f with
    | zero =>
      intro w p ks op fr σ1 h1 h2 hz hP hF hI hR
      have e : p = L := by omega
      subst e
      exact fin w ks op fr σ1 hz hP hI (hR.trans (rnF_e (by omega)))
    | succ f ih =>
      intro w p ks op fr σ1 h1 h2 hz hP hF hI hR
      by_cases hp : p < L
      · have K : ∀ w0, w0 = w → ∀ w' p' ks' op' fr' σ', zpf σ σ' → PM σ' ks' op' → zFr σ' fr' → IV p' ks' op' fr' → p < p' → p' ≤ L → stF σ L w0 p ks op fr = .inr (w', p', ks', op', fr') → zJ τ (zFn τ (fun r μ' => r = some (.int (fltI R L)) ∧ ∃ σ', μ' = zA4 μ σ' π g ∧ zpf σ σ' ∧ (fltI R L = -1 → PM σ' (rdK R).1 (rdK R).2)) 0 0) 23 [some (.ref 67), some (.int (nI (fr'.length - 1))), some (.int (zbi w')), some (.int (nI p')), none, none] [] (zA4 μ σ' π g) 0 0 :=
          fun w0 hw w' p' ks' op' fr' σ' hz' hP' hF' hI' hlt hle hs => ih w' p' ks' op' fr' σ' (by omega) hle hz' hP' hF' hI' (hR.trans (rnF_r hp (hw ▸ hs)))
        have K2 : ∀ w0, w0 = w → ∀ q, stF σ L w0 p ks op fr = .inl q → q ≤ 30 → ∀ σ', zpf σ σ' → some (Value.int (nI q)) = some (.int (fltI R L)) ∧ ∃ σ'', zA4 μ σ' π g = zA4 μ σ'' π g ∧ zpf σ σ'' ∧ (fltI R L = -1 → PM σ'' (rdK R).1 (rdK R).2) := by
          intro w0 hw q hs hq σ' hz'
          have e : fltI R L = nI q := by rw [hR.trans (rnF_l hp (hw ▸ hs))]; rfl
          rw [e]
          exact ⟨rfl, σ', rfl, hz', fun h => absurd h (nL q hq)⟩
        have hq : ∀ w0 q, stF σ L w0 p ks op fr = .inl q → q ≤ 30 := fun w0 q hs => stF_le hp hL30 hs
        cases w with
        | true => exact fo_true hZ hS hY hL hL30 hp hz hP hF hI (K true rfl) (fun q hs => K2 true rfl q hs (hq true q hs))
        | false =>
          by_cases hdd : 0 < deedN (σ 68 p)
          · exact fo_false hZ hS hY hL hL30 hp hz hP hF hI (K false rfl) (fun h => absurd hdd h) (fun q hs => K2 false rfl q hs (hq false q hs))
          · exact fo_rest hZ hS hY hL hL30 hp hz hP hF hI (K false rfl) hdd (fun q hs => K2 false rfl q hs (hq false q hs))
      · have e : p = L := by omega
        subst e
        exact fin w ks op fr σ1 hz hP hI (hR.trans (rnF_e (by omega)))
  refine J_aload_n (i := 0) hT dX9_faultOf_0 rfl rfl ?_
  refine J_iconst (v := 0) hT dX9_faultOf_1 rfl ?_
  refine R_putI hT fX9_154 rfl rfl dX9_faultOf_2 (rk hS) ?_
  refine J_aload_n (i := 0) hT dX9_faultOf_5 rfl rfl ?_
  refine J_iconst (v := 0) hT dX9_faultOf_6 rfl ?_
  refine R_putI hT fX9_157 rfl rfl dX9_faultOf_7 (rk hS) ?_
  refine J_iconst (v := 0) hT dX9_faultOf_10 rfl ?_
  refine S_istore1 hT dX9_faultOf_11 rfl rfl ?_
  refine J_aload_n (i := 0) hT dX9_faultOf_12 rfl rfl ?_
  refine R_getP hT fX9_19 rfl dX9_faultOf_13 (rk hS) (rp_hasCompared hS) ?_
  refine J_iconst (v := 0) hT dX9_faultOf_16 rfl ?_
  refine J_iconst (v := 0) hT dX9_faultOf_17 rfl ?_
  refine R_zast hT dX9_faultOf_18 (rk_hasCompared hS) (rl_hasCompared hS) (by first | exact ⟨rfl, by decide⟩ | exact zix_nI (by omega) (by decide) | assumption) (by decide) ?_
  refine J_iconst (v := 1) hT dX9_faultOf_19 rfl ?_
  refine S_istore2 hT dX9_faultOf_20 rfl rfl ?_
  refine J_iconst (v := 0) hT dX9_faultOf_21 rfl ?_
  refine S_istore3 hT dX9_faultOf_22 rfl rfl ?_
  refine J_L (L' := [_, _, _, _, none, none]) (zsub_refl _) ?_
  exact loop 30 true 0 [] [] [(false, 40, 1)] _ (by omega) (by omega) (zpf_trans (zpf_trans (zpf_u σ 67 3 0 (by simp)) (zpf_u _ 67 5 0 (by simp))) (zpf_u _ 71 0 0 (by simp))) ⟨by simp [zu]; rfl, by simp [zu]; rfl, trivial, trivial, by decide, by decide, fun d hd => absurd hd (by simp)⟩ ⟨by simp [zu, zbi], fun q => absurd rfl q, trivial⟩ ⟨by simp [ng, fnc], rfl, by decide, fun d hd => absurd hd (by simp), fun f hf => by simp at hf; rw [hf]; decide⟩ hR0
